/-! each method's instructions are simulated (written by wip/whole/gen.py) -/
theorem dX7_hours_0 : decode cX7_hours 0 = .ok (.aload_n 0, 1) := by decide +kernel
theorem dX7_hours_1 : decode cX7_hours 1 = .ok (.iload_n 1, 1) := by decide +kernel
theorem dX7_hours_2 : decode cX7_hours 2 = .ok (.invokevirtual 86, 3) := by decide +kernel
theorem dX7_hours_5 : decode cX7_hours 5 = .ok (.ifCond .eq 40, 3) := by decide +kernel
theorem dX7_hours_8 : decode cX7_hours 8 = .ok (.iload_n 2, 1) := by decide +kernel
theorem dX7_hours_9 : decode cX7_hours 9 = .ok (.i2l, 1) := by decide +kernel
theorem dX7_hours_10 : decode cX7_hours 10 = .ok (.lconst 0, 1) := by decide +kernel
theorem dX7_hours_11 : decode cX7_hours 11 = .ok (.ldc2_w 384, 3) := by decide +kernel
theorem dX7_hours_14 : decode cX7_hours 14 = .ok (.invokestatic 76, 3) := by decide +kernel
theorem dX7_hours_17 : decode cX7_hours 17 = .ok (.ifCond .eq 28, 3) := by decide +kernel
theorem dX7_hours_20 : decode cX7_hours 20 = .ok (.iload_n 3, 1) := by decide +kernel
theorem dX7_hours_21 : decode cX7_hours 21 = .ok (.i2l, 1) := by decide +kernel
theorem dX7_hours_22 : decode cX7_hours 22 = .ok (.lconst 0, 1) := by decide +kernel
theorem dX7_hours_23 : decode cX7_hours 23 = .ok (.ldc2_w 360, 3) := by decide +kernel
theorem dX7_hours_26 : decode cX7_hours 26 = .ok (.invokestatic 76, 3) := by decide +kernel
theorem dX7_hours_29 : decode cX7_hours 29 = .ok (.ifCond .eq 16, 3) := by decide +kernel
theorem dX7_hours_32 : decode cX7_hours 32 = .ok (.iload 4, 2) := by decide +kernel
theorem dX7_hours_34 : decode cX7_hours 34 = .ok (.i2l, 1) := by decide +kernel
theorem dX7_hours_35 : decode cX7_hours 35 = .ok (.lconst 0, 1) := by decide +kernel
theorem dX7_hours_36 : decode cX7_hours 36 = .ok (.ldc2_w 360, 3) := by decide +kernel
theorem dX7_hours_39 : decode cX7_hours 39 = .ok (.invokestatic 76, 3) := by decide +kernel
theorem dX7_hours_42 : decode cX7_hours 42 = .ok (.ifCond .ne 6, 3) := by decide +kernel
theorem dX7_hours_45 : decode cX7_hours 45 = .ok (.bipush (-2), 2) := by decide +kernel
theorem dX7_hours_47 : decode cX7_hours 47 = .ok (.ireturn, 1) := by decide +kernel
theorem dX7_hours_48 : decode cX7_hours 48 = .ok (.iload_n 2, 1) := by decide +kernel
theorem dX7_hours_49 : decode cX7_hours 49 = .ok (.ifCond .ne 7, 3) := by decide +kernel
theorem dX7_hours_52 : decode cX7_hours 52 = .ok (.iconst 1, 1) := by decide +kernel
theorem dX7_hours_53 : decode cX7_hours 53 = .ok (.goto 26, 3) := by decide +kernel
theorem dX7_hours_56 : decode cX7_hours 56 = .ok (.iload_n 2, 1) := by decide +kernel
theorem dX7_hours_57 : decode cX7_hours 57 = .ok (.iconst 1, 1) := by decide +kernel
theorem dX7_hours_58 : decode cX7_hours 58 = .ok (.if_icmp .ne 8, 3) := by decide +kernel
theorem dX7_hours_61 : decode cX7_hours 61 = .ok (.bipush 8, 2) := by decide +kernel
theorem dX7_hours_63 : decode cX7_hours 63 = .ok (.goto 16, 3) := by decide +kernel
theorem dX7_hours_66 : decode cX7_hours 66 = .ok (.iload_n 2, 1) := by decide +kernel
theorem dX7_hours_67 : decode cX7_hours 67 = .ok (.iconst 2, 1) := by decide +kernel
theorem dX7_hours_68 : decode cX7_hours 68 = .ok (.if_icmp .ne 8, 3) := by decide +kernel
theorem dX7_hours_71 : decode cX7_hours 71 = .ok (.bipush 64, 2) := by decide +kernel
theorem dX7_hours_73 : decode cX7_hours 73 = .ok (.goto 6, 3) := by decide +kernel
theorem dX7_hours_76 : decode cX7_hours 76 = .ok (.sipush 512, 3) := by decide +kernel
theorem dX7_hours_79 : decode cX7_hours 79 = .ok (.istore 5, 2) := by decide +kernel
theorem dX7_hours_81 : decode cX7_hours 81 = .ok (.iconst 0, 1) := by decide +kernel
theorem dX7_hours_82 : decode cX7_hours 82 = .ok (.istore 6, 2) := by decide +kernel
theorem dX7_hours_84 : decode cX7_hours 84 = .ok (.iconst (-1), 1) := by decide +kernel
theorem dX7_hours_85 : decode cX7_hours 85 = .ok (.istore 7, 2) := by decide +kernel
theorem dX7_hours_87 : decode cX7_hours 87 = .ok (.iconst 0, 1) := by decide +kernel
theorem dX7_hours_88 : decode cX7_hours 88 = .ok (.istore 8, 2) := by decide +kernel
theorem dX7_hours_90 : decode cX7_hours 90 = .ok (.aload_n 0, 1) := by decide +kernel
theorem dX7_hours_91 : decode cX7_hours 91 = .ok (.iload_n 1, 1) := by decide +kernel
theorem dX7_hours_92 : decode cX7_hours 92 = .ok (.invokevirtual 375, 3) := by decide +kernel
theorem dX7_hours_95 : decode cX7_hours 95 = .ok (.iconst 0, 1) := by decide +kernel
theorem dX7_hours_96 : decode cX7_hours 96 = .ok (.istore 9, 2) := by decide +kernel
theorem dX7_hours_98 : decode cX7_hours 98 = .ok (.iload 9, 2) := by decide +kernel
theorem dX7_hours_100 : decode cX7_hours 100 = .ok (.iload 5, 2) := by decide +kernel
theorem dX7_hours_102 : decode cX7_hours 102 = .ok (.if_icmp .ge 116, 3) := by decide +kernel
theorem dX7_hours_105 : decode cX7_hours 105 = .ok (.iconst 0, 1) := by decide +kernel
theorem dX7_hours_106 : decode cX7_hours 106 = .ok (.istore 10, 2) := by decide +kernel
theorem dX7_hours_108 : decode cX7_hours 108 = .ok (.iload 5, 2) := by decide +kernel
theorem dX7_hours_110 : decode cX7_hours 110 = .ok (.bipush 8, 2) := by decide +kernel
theorem dX7_hours_112 : decode cX7_hours 112 = .ok (.idiv, 1) := by decide +kernel
theorem dX7_hours_113 : decode cX7_hours 113 = .ok (.istore 11, 2) := by decide +kernel
theorem dX7_hours_115 : decode cX7_hours 115 = .ok (.iload 11, 2) := by decide +kernel
theorem dX7_hours_117 : decode cX7_hours 117 = .ok (.ifCond .le 43, 3) := by decide +kernel
theorem dX7_hours_120 : decode cX7_hours 120 = .ok (.iload 9, 2) := by decide +kernel
theorem dX7_hours_122 : decode cX7_hours 122 = .ok (.iload 11, 2) := by decide +kernel
theorem dX7_hours_124 : decode cX7_hours 124 = .ok (.idiv, 1) := by decide +kernel
theorem dX7_hours_125 : decode cX7_hours 125 = .ok (.bipush 8, 2) := by decide +kernel
theorem dX7_hours_127 : decode cX7_hours 127 = .ok (.irem, 1) := by decide +kernel
theorem dX7_hours_128 : decode cX7_hours 128 = .ok (.istore 12, 2) := by decide +kernel
theorem dX7_hours_130 : decode cX7_hours 130 = .ok (.aload_n 0, 1) := by decide +kernel
theorem dX7_hours_131 : decode cX7_hours 131 = .ok (.iload_n 1, 1) := by decide +kernel
theorem dX7_hours_132 : decode cX7_hours 132 = .ok (.iload 12, 2) := by decide +kernel
theorem dX7_hours_134 : decode cX7_hours 134 = .ok (.iload_n 3, 1) := by decide +kernel
theorem dX7_hours_135 : decode cX7_hours 135 = .ok (.invokevirtual 362, 3) := by decide +kernel
theorem dX7_hours_138 : decode cX7_hours 138 = .ok (.bipush 10, 2) := by decide +kernel
theorem dX7_hours_140 : decode cX7_hours 140 = .ok (.iload 10, 2) := by decide +kernel
theorem dX7_hours_142 : decode cX7_hours 142 = .ok (.imul, 1) := by decide +kernel
theorem dX7_hours_143 : decode cX7_hours 143 = .ok (.iload 12, 2) := by decide +kernel
theorem dX7_hours_145 : decode cX7_hours 145 = .ok (.iadd, 1) := by decide +kernel
theorem dX7_hours_146 : decode cX7_hours 146 = .ok (.iconst 1, 1) := by decide +kernel
theorem dX7_hours_147 : decode cX7_hours 147 = .ok (.iadd, 1) := by decide +kernel
theorem dX7_hours_148 : decode cX7_hours 148 = .ok (.istore 10, 2) := by decide +kernel
theorem dX7_hours_150 : decode cX7_hours 150 = .ok (.iload 11, 2) := by decide +kernel
theorem dX7_hours_152 : decode cX7_hours 152 = .ok (.bipush 8, 2) := by decide +kernel
theorem dX7_hours_154 : decode cX7_hours 154 = .ok (.idiv, 1) := by decide +kernel
theorem dX7_hours_155 : decode cX7_hours 155 = .ok (.istore 11, 2) := by decide +kernel
theorem dX7_hours_157 : decode cX7_hours 157 = .ok (.goto (-42), 3) := by decide +kernel
theorem dX7_hours_160 : decode cX7_hours 160 = .ok (.aload_n 0, 1) := by decide +kernel
theorem dX7_hours_161 : decode cX7_hours 161 = .ok (.iload_n 1, 1) := by decide +kernel
theorem dX7_hours_162 : decode cX7_hours 162 = .ok (.invokevirtual 131, 3) := by decide +kernel
theorem dX7_hours_165 : decode cX7_hours 165 = .ok (.istore 11, 2) := by decide +kernel
theorem dX7_hours_167 : decode cX7_hours 167 = .ok (.aload_n 0, 1) := by decide +kernel
theorem dX7_hours_168 : decode cX7_hours 168 = .ok (.getfield 32, 3) := by decide +kernel
theorem dX7_hours_171 : decode cX7_hours 171 = .ok (.iload_n 1, 1) := by decide +kernel
theorem dX7_hours_172 : decode cX7_hours 172 = .ok (.bipush 9, 2) := by decide +kernel
theorem dX7_hours_174 : decode cX7_hours 174 = .ok (.invokestatic 114, 3) := by decide +kernel
theorem dX7_hours_177 : decode cX7_hours 177 = .ok (.iaload, 1) := by decide +kernel
theorem dX7_hours_178 : decode cX7_hours 178 = .ok (.aload_n 0, 1) := by decide +kernel
theorem dX7_hours_179 : decode cX7_hours 179 = .ok (.getfield 35, 3) := by decide +kernel
theorem dX7_hours_182 : decode cX7_hours 182 = .ok (.bipush 9, 2) := by decide +kernel
theorem dX7_hours_184 : decode cX7_hours 184 = .ok (.iaload, 1) := by decide +kernel
theorem dX7_hours_185 : decode cX7_hours 185 = .ok (.isub, 1) := by decide +kernel
theorem dX7_hours_186 : decode cX7_hours 186 = .ok (.istore 12, 2) := by decide +kernel
theorem dX7_hours_188 : decode cX7_hours 188 = .ok (.aload_n 0, 1) := by decide +kernel
theorem dX7_hours_189 : decode cX7_hours 189 = .ok (.iload_n 1, 1) := by decide +kernel
theorem dX7_hours_190 : decode cX7_hours 190 = .ok (.invokevirtual 381, 3) := by decide +kernel
theorem dX7_hours_193 : decode cX7_hours 193 = .ok (.iload 11, 2) := by decide +kernel
theorem dX7_hours_195 : decode cX7_hours 195 = .ok (.iload 7, 2) := by decide +kernel
theorem dX7_hours_197 : decode cX7_hours 197 = .ok (.if_icmp .le 15, 3) := by decide +kernel
theorem dX7_hours_200 : decode cX7_hours 200 = .ok (.iload 10, 2) := by decide +kernel
theorem dX7_hours_202 : decode cX7_hours 202 = .ok (.istore 6, 2) := by decide +kernel
theorem dX7_hours_204 : decode cX7_hours 204 = .ok (.iload 11, 2) := by decide +kernel
theorem dX7_hours_206 : decode cX7_hours 206 = .ok (.istore 7, 2) := by decide +kernel
theorem dX7_hours_208 : decode cX7_hours 208 = .ok (.iload 12, 2) := by decide +kernel
theorem dX7_hours_210 : decode cX7_hours 210 = .ok (.istore 8, 2) := by decide +kernel
theorem dX7_hours_212 : decode cX7_hours 212 = .ok (.iinc 9 1, 3) := by decide +kernel
theorem dX7_hours_215 : decode cX7_hours 215 = .ok (.goto (-117), 3) := by decide +kernel
theorem dX7_hours_218 : decode cX7_hours 218 = .ok (.iload 4, 2) := by decide +kernel
theorem dX7_hours_220 : decode cX7_hours 220 = .ok (.ifCond .ne 8, 3) := by decide +kernel
theorem dX7_hours_223 : decode cX7_hours 223 = .ok (.iload 6, 2) := by decide +kernel
theorem dX7_hours_225 : decode cX7_hours 225 = .ok (.goto 16, 3) := by decide +kernel
theorem dX7_hours_228 : decode cX7_hours 228 = .ok (.iload 4, 2) := by decide +kernel
theorem dX7_hours_230 : decode cX7_hours 230 = .ok (.iconst 1, 1) := by decide +kernel
theorem dX7_hours_231 : decode cX7_hours 231 = .ok (.if_icmp .ne 8, 3) := by decide +kernel
theorem dX7_hours_234 : decode cX7_hours 234 = .ok (.iload 7, 2) := by decide +kernel
theorem dX7_hours_236 : decode cX7_hours 236 = .ok (.goto 5, 3) := by decide +kernel
theorem dX7_hours_239 : decode cX7_hours 239 = .ok (.iload 8, 2) := by decide +kernel
theorem dX7_hours_241 : decode cX7_hours 241 = .ok (.ireturn, 1) := by decide +kernel
theorem dX7_weakest_0 : decode cX7_weakest 0 = .ok (.iconst 0, 1) := by decide +kernel
theorem dX7_weakest_1 : decode cX7_weakest 1 = .ok (.istore_n 2, 1) := by decide +kernel
theorem dX7_weakest_2 : decode cX7_weakest 2 = .ok (.iconst 1, 1) := by decide +kernel
theorem dX7_weakest_3 : decode cX7_weakest 3 = .ok (.istore_n 3, 1) := by decide +kernel
theorem dX7_weakest_4 : decode cX7_weakest 4 = .ok (.iload_n 3, 1) := by decide +kernel
theorem dX7_weakest_5 : decode cX7_weakest 5 = .ok (.bipush 8, 2) := by decide +kernel
theorem dX7_weakest_7 : decode cX7_weakest 7 = .ok (.if_icmp .ge 38, 3) := by decide +kernel
theorem dX7_weakest_10 : decode cX7_weakest 10 = .ok (.aload_n 0, 1) := by decide +kernel
theorem dX7_weakest_11 : decode cX7_weakest 11 = .ok (.getfield 32, 3) := by decide +kernel
theorem dX7_weakest_14 : decode cX7_weakest 14 = .ok (.iload_n 1, 1) := by decide +kernel
theorem dX7_weakest_15 : decode cX7_weakest 15 = .ok (.iload_n 3, 1) := by decide +kernel
theorem dX7_weakest_16 : decode cX7_weakest 16 = .ok (.invokestatic 114, 3) := by decide +kernel
theorem dX7_weakest_19 : decode cX7_weakest 19 = .ok (.iaload, 1) := by decide +kernel
theorem dX7_weakest_20 : decode cX7_weakest 20 = .ok (.aload_n 0, 1) := by decide +kernel
theorem dX7_weakest_21 : decode cX7_weakest 21 = .ok (.getfield 32, 3) := by decide +kernel
theorem dX7_weakest_24 : decode cX7_weakest 24 = .ok (.iload_n 1, 1) := by decide +kernel
theorem dX7_weakest_25 : decode cX7_weakest 25 = .ok (.iload_n 2, 1) := by decide +kernel
theorem dX7_weakest_26 : decode cX7_weakest 26 = .ok (.invokestatic 114, 3) := by decide +kernel
theorem dX7_weakest_29 : decode cX7_weakest 29 = .ok (.iaload, 1) := by decide +kernel
theorem dX7_weakest_30 : decode cX7_weakest 30 = .ok (.if_icmp .ge 7, 3) := by decide +kernel
theorem dX7_weakest_33 : decode cX7_weakest 33 = .ok (.iload_n 3, 1) := by decide +kernel
theorem dX7_weakest_34 : decode cX7_weakest 34 = .ok (.goto 4, 3) := by decide +kernel
theorem dX7_weakest_37 : decode cX7_weakest 37 = .ok (.iload_n 2, 1) := by decide +kernel
theorem dX7_weakest_38 : decode cX7_weakest 38 = .ok (.istore_n 2, 1) := by decide +kernel
theorem dX7_weakest_39 : decode cX7_weakest 39 = .ok (.iinc 3 1, 3) := by decide +kernel
theorem dX7_weakest_42 : decode cX7_weakest 42 = .ok (.goto (-38), 3) := by decide +kernel
theorem dX7_weakest_45 : decode cX7_weakest 45 = .ok (.iload_n 2, 1) := by decide +kernel
theorem dX7_weakest_46 : decode cX7_weakest 46 = .ok (.ireturn, 1) := by decide +kernel
theorem dX7_takes_0 : decode cX7_takes 0 = .ok (.aload_n 0, 1) := by decide +kernel
theorem dX7_takes_1 : decode cX7_takes 1 = .ok (.iload_n 1, 1) := by decide +kernel
theorem dX7_takes_2 : decode cX7_takes 2 = .ok (.invokevirtual 86, 3) := by decide +kernel
theorem dX7_takes_5 : decode cX7_takes 5 = .ok (.ifCond .eq 27, 3) := by decide +kernel
theorem dX7_takes_8 : decode cX7_takes 8 = .ok (.iload_n 2, 1) := by decide +kernel
theorem dX7_takes_9 : decode cX7_takes 9 = .ok (.i2l, 1) := by decide +kernel
theorem dX7_takes_10 : decode cX7_takes 10 = .ok (.lconst 0, 1) := by decide +kernel
theorem dX7_takes_11 : decode cX7_takes 11 = .ok (.ldc2_w 360, 3) := by decide +kernel
theorem dX7_takes_14 : decode cX7_takes 14 = .ok (.invokestatic 76, 3) := by decide +kernel
theorem dX7_takes_17 : decode cX7_takes 17 = .ok (.ifCond .eq 15, 3) := by decide +kernel
theorem dX7_takes_20 : decode cX7_takes 20 = .ok (.iload_n 3, 1) := by decide +kernel
theorem dX7_takes_21 : decode cX7_takes 21 = .ok (.i2l, 1) := by decide +kernel
theorem dX7_takes_22 : decode cX7_takes 22 = .ok (.lconst 1, 1) := by decide +kernel
theorem dX7_takes_23 : decode cX7_takes 23 = .ok (.ldc2_w 122, 3) := by decide +kernel
theorem dX7_takes_26 : decode cX7_takes 26 = .ok (.invokestatic 76, 3) := by decide +kernel
theorem dX7_takes_29 : decode cX7_takes 29 = .ok (.ifCond .ne 6, 3) := by decide +kernel
theorem dX7_takes_32 : decode cX7_takes 32 = .ok (.bipush (-2), 2) := by decide +kernel
theorem dX7_takes_34 : decode cX7_takes 34 = .ok (.ireturn, 1) := by decide +kernel
theorem dX7_takes_35 : decode cX7_takes 35 = .ok (.aload_n 0, 1) := by decide +kernel
theorem dX7_takes_36 : decode cX7_takes 36 = .ok (.iload_n 1, 1) := by decide +kernel
theorem dX7_takes_37 : decode cX7_takes 37 = .ok (.invokevirtual 375, 3) := by decide +kernel
theorem dX7_takes_40 : decode cX7_takes 40 = .ok (.aload_n 0, 1) := by decide +kernel
theorem dX7_takes_41 : decode cX7_takes 41 = .ok (.iload_n 1, 1) := by decide +kernel
theorem dX7_takes_42 : decode cX7_takes 42 = .ok (.invokevirtual 131, 3) := by decide +kernel
theorem dX7_takes_45 : decode cX7_takes 45 = .ok (.bipush 8, 2) := by decide +kernel
theorem dX7_takes_47 : decode cX7_takes 47 = .ok (.if_icmp .ne 7, 3) := by decide +kernel
theorem dX7_takes_50 : decode cX7_takes 50 = .ok (.iconst 0, 1) := by decide +kernel
theorem dX7_takes_51 : decode cX7_takes 51 = .ok (.goto 4, 3) := by decide +kernel
theorem dX7_takes_54 : decode cX7_takes 54 = .ok (.iconst (-1), 1) := by decide +kernel
theorem dX7_takes_55 : decode cX7_takes 55 = .ok (.istore 4, 2) := by decide +kernel
theorem dX7_takes_57 : decode cX7_takes 57 = .ok (.iconst 1, 1) := by decide +kernel
theorem dX7_takes_58 : decode cX7_takes 58 = .ok (.istore 5, 2) := by decide +kernel
theorem dX7_takes_60 : decode cX7_takes 60 = .ok (.iload 5, 2) := by decide +kernel
theorem dX7_takes_62 : decode cX7_takes 62 = .ok (.bipush 40, 2) := by decide +kernel
theorem dX7_takes_64 : decode cX7_takes 64 = .ok (.if_icmp .gt 74, 3) := by decide +kernel
theorem dX7_takes_67 : decode cX7_takes 67 = .ok (.iload 4, 2) := by decide +kernel
theorem dX7_takes_69 : decode cX7_takes 69 = .ok (.iconst (-1), 1) := by decide +kernel
theorem dX7_takes_70 : decode cX7_takes 70 = .ok (.if_icmp .ne 68, 3) := by decide +kernel
theorem dX7_takes_73 : decode cX7_takes 73 = .ok (.iconst 0, 1) := by decide +kernel
theorem dX7_takes_74 : decode cX7_takes 74 = .ok (.istore 6, 2) := by decide +kernel
theorem dX7_takes_76 : decode cX7_takes 76 = .ok (.iload 6, 2) := by decide +kernel
theorem dX7_takes_78 : decode cX7_takes 78 = .ok (.iload_n 3, 1) := by decide +kernel
theorem dX7_takes_79 : decode cX7_takes 79 = .ok (.if_icmp .ge 20, 3) := by decide +kernel
theorem dX7_takes_82 : decode cX7_takes 82 = .ok (.aload_n 0, 1) := by decide +kernel
theorem dX7_takes_83 : decode cX7_takes 83 = .ok (.iload_n 1, 1) := by decide +kernel
theorem dX7_takes_84 : decode cX7_takes 84 = .ok (.aload_n 0, 1) := by decide +kernel
theorem dX7_takes_85 : decode cX7_takes 85 = .ok (.iload_n 1, 1) := by decide +kernel
theorem dX7_takes_86 : decode cX7_takes 86 = .ok (.invokevirtual 386, 3) := by decide +kernel
theorem dX7_takes_89 : decode cX7_takes 89 = .ok (.iload_n 2, 1) := by decide +kernel
theorem dX7_takes_90 : decode cX7_takes 90 = .ok (.invokevirtual 362, 3) := by decide +kernel
theorem dX7_takes_93 : decode cX7_takes 93 = .ok (.iinc 6 1, 3) := by decide +kernel
theorem dX7_takes_96 : decode cX7_takes 96 = .ok (.goto (-20), 3) := by decide +kernel
theorem dX7_takes_99 : decode cX7_takes 99 = .ok (.aload_n 0, 1) := by decide +kernel
theorem dX7_takes_100 : decode cX7_takes 100 = .ok (.iload_n 1, 1) := by decide +kernel
theorem dX7_takes_101 : decode cX7_takes 101 = .ok (.invokevirtual 131, 3) := by decide +kernel
theorem dX7_takes_104 : decode cX7_takes 104 = .ok (.bipush 8, 2) := by decide +kernel
theorem dX7_takes_106 : decode cX7_takes 106 = .ok (.if_icmp .ne 8, 3) := by decide +kernel
theorem dX7_takes_109 : decode cX7_takes 109 = .ok (.iload 5, 2) := by decide +kernel
theorem dX7_takes_111 : decode cX7_takes 111 = .ok (.goto 4, 3) := by decide +kernel
theorem dX7_takes_114 : decode cX7_takes 114 = .ok (.iconst (-1), 1) := by decide +kernel
theorem dX7_takes_115 : decode cX7_takes 115 = .ok (.istore 4, 2) := by decide +kernel
theorem dX7_takes_117 : decode cX7_takes 117 = .ok (.aload_n 0, 1) := by decide +kernel
theorem dX7_takes_118 : decode cX7_takes 118 = .ok (.iload_n 1, 1) := by decide +kernel
theorem dX7_takes_119 : decode cX7_takes 119 = .ok (.invokevirtual 365, 3) := by decide +kernel
theorem dX7_takes_122 : decode cX7_takes 122 = .ok (.aload_n 0, 1) := by decide +kernel
theorem dX7_takes_123 : decode cX7_takes 123 = .ok (.dup, 1) := by decide +kernel
theorem dX7_takes_124 : decode cX7_takes 124 = .ok (.getfield 111, 3) := by decide +kernel
theorem dX7_takes_127 : decode cX7_takes 127 = .ok (.iconst 1, 1) := by decide +kernel
theorem dX7_takes_128 : decode cX7_takes 128 = .ok (.iadd, 1) := by decide +kernel
theorem dX7_takes_129 : decode cX7_takes 129 = .ok (.putfield 111, 3) := by decide +kernel
theorem dX7_takes_132 : decode cX7_takes 132 = .ok (.iinc 5 1, 3) := by decide +kernel
theorem dX7_takes_135 : decode cX7_takes 135 = .ok (.goto (-75), 3) := by decide +kernel
theorem dX7_takes_138 : decode cX7_takes 138 = .ok (.aload_n 0, 1) := by decide +kernel
theorem dX7_takes_139 : decode cX7_takes 139 = .ok (.iload_n 1, 1) := by decide +kernel
theorem dX7_takes_140 : decode cX7_takes 140 = .ok (.invokevirtual 381, 3) := by decide +kernel
theorem dX7_takes_143 : decode cX7_takes 143 = .ok (.iload 4, 2) := by decide +kernel
theorem dX7_takes_145 : decode cX7_takes 145 = .ok (.ireturn, 1) := by decide +kernel
theorem dX7_late_0 : decode cX7_late 0 = .ok (.aload_n 0, 1) := by decide +kernel
theorem dX7_late_1 : decode cX7_late 1 = .ok (.iload_n 1, 1) := by decide +kernel
theorem dX7_late_2 : decode cX7_late 2 = .ok (.invokevirtual 86, 3) := by decide +kernel
theorem dX7_late_5 : decode cX7_late 5 = .ok (.ifCond .eq 10, 3) := by decide +kernel
theorem dX7_late_8 : decode cX7_late 8 = .ok (.iload_n 2, 1) := by decide +kernel
theorem dX7_late_9 : decode cX7_late 9 = .ok (.invokestatic 82, 3) := by decide +kernel
theorem dX7_late_12 : decode cX7_late 12 = .ok (.ifCond .ne 6, 3) := by decide +kernel
theorem dX7_late_15 : decode cX7_late 15 = .ok (.bipush (-2), 2) := by decide +kernel
theorem dX7_late_17 : decode cX7_late 17 = .ok (.ireturn, 1) := by decide +kernel
theorem dX7_late_18 : decode cX7_late 18 = .ok (.aload_n 0, 1) := by decide +kernel
theorem dX7_late_19 : decode cX7_late 19 = .ok (.iload_n 1, 1) := by decide +kernel
theorem dX7_late_20 : decode cX7_late 20 = .ok (.invokevirtual 375, 3) := by decide +kernel
theorem dX7_late_23 : decode cX7_late 23 = .ok (.iconst 0, 1) := by decide +kernel
theorem dX7_late_24 : decode cX7_late 24 = .ok (.istore_n 3, 1) := by decide +kernel
theorem dX7_late_25 : decode cX7_late 25 = .ok (.iload_n 3, 1) := by decide +kernel
theorem dX7_late_26 : decode cX7_late 26 = .ok (.bipush 30, 2) := by decide +kernel
theorem dX7_late_28 : decode cX7_late 28 = .ok (.if_icmp .gt 25, 3) := by decide +kernel
theorem dX7_late_31 : decode cX7_late 31 = .ok (.aload_n 0, 1) := by decide +kernel
theorem dX7_late_32 : decode cX7_late 32 = .ok (.iload_n 1, 1) := by decide +kernel
theorem dX7_late_33 : decode cX7_late 33 = .ok (.iload_n 2, 1) := by decide +kernel
theorem dX7_late_34 : decode cX7_late 34 = .ok (.invokevirtual 128, 3) := by decide +kernel
theorem dX7_late_37 : decode cX7_late 37 = .ok (.ifCond .ne 16, 3) := by decide +kernel
theorem dX7_late_40 : decode cX7_late 40 = .ok (.aload_n 0, 1) := by decide +kernel
theorem dX7_late_41 : decode cX7_late 41 = .ok (.iload_n 1, 1) := by decide +kernel
theorem dX7_late_42 : decode cX7_late 42 = .ok (.iload_n 2, 1) := by decide +kernel
theorem dX7_late_43 : decode cX7_late 43 = .ok (.iconst 0, 1) := by decide +kernel
theorem dX7_late_44 : decode cX7_late 44 = .ok (.invokevirtual 362, 3) := by decide +kernel
theorem dX7_late_47 : decode cX7_late 47 = .ok (.iinc 3 1, 3) := by decide +kernel
theorem dX7_late_50 : decode cX7_late 50 = .ok (.goto (-25), 3) := by decide +kernel
theorem dX7_late_53 : decode cX7_late 53 = .ok (.aload_n 0, 1) := by decide +kernel
theorem dX7_late_54 : decode cX7_late 54 = .ok (.iload_n 1, 1) := by decide +kernel
theorem dX7_late_55 : decode cX7_late 55 = .ok (.invokevirtual 381, 3) := by decide +kernel
theorem dX7_late_58 : decode cX7_late 58 = .ok (.iload_n 3, 1) := by decide +kernel
theorem dX7_late_59 : decode cX7_late 59 = .ok (.bipush 30, 2) := by decide +kernel
theorem dX7_late_61 : decode cX7_late 61 = .ok (.if_icmp .le 7, 3) := by decide +kernel
theorem dX7_late_64 : decode cX7_late 64 = .ok (.iconst (-1), 1) := by decide +kernel
theorem dX7_late_65 : decode cX7_late 65 = .ok (.goto 4, 3) := by decide +kernel
theorem dX7_late_68 : decode cX7_late 68 = .ok (.iload_n 3, 1) := by decide +kernel
theorem dX7_late_69 : decode cX7_late 69 = .ok (.ireturn, 1) := by decide +kernel
theorem dX7_gap_0 : decode cX7_gap 0 = .ok (.aload_n 0, 1) := by decide +kernel
theorem dX7_gap_1 : decode cX7_gap 1 = .ok (.iload_n 1, 1) := by decide +kernel
theorem dX7_gap_2 : decode cX7_gap 2 = .ok (.invokevirtual 86, 3) := by decide +kernel
theorem dX7_gap_5 : decode cX7_gap 5 = .ok (.ifCond .eq 13, 3) := by decide +kernel
theorem dX7_gap_8 : decode cX7_gap 8 = .ok (.iload_n 2, 1) := by decide +kernel
theorem dX7_gap_9 : decode cX7_gap 9 = .ok (.i2l, 1) := by decide +kernel
theorem dX7_gap_10 : decode cX7_gap 10 = .ok (.lconst 0, 1) := by decide +kernel
theorem dX7_gap_11 : decode cX7_gap 11 = .ok (.lconst 1, 1) := by decide +kernel
theorem dX7_gap_12 : decode cX7_gap 12 = .ok (.invokestatic 76, 3) := by decide +kernel
theorem dX7_gap_15 : decode cX7_gap 15 = .ok (.ifCond .ne 7, 3) := by decide +kernel
theorem dX7_gap_18 : decode cX7_gap 18 = .ok (.sipush (-1000), 3) := by decide +kernel
theorem dX7_gap_21 : decode cX7_gap 21 = .ok (.ireturn, 1) := by decide +kernel
theorem dX7_gap_22 : decode cX7_gap 22 = .ok (.iconst 0, 1) := by decide +kernel
theorem dX7_gap_23 : decode cX7_gap 23 = .ok (.istore_n 3, 1) := by decide +kernel
theorem dX7_gap_24 : decode cX7_gap 24 = .ok (.iconst 1, 1) := by decide +kernel
theorem dX7_gap_25 : decode cX7_gap 25 = .ok (.istore 4, 2) := by decide +kernel
theorem dX7_gap_27 : decode cX7_gap 27 = .ok (.iload 4, 2) := by decide +kernel
theorem dX7_gap_29 : decode cX7_gap 29 = .ok (.bipush 8, 2) := by decide +kernel
theorem dX7_gap_31 : decode cX7_gap 31 = .ok (.if_icmp .ge 32, 3) := by decide +kernel
theorem dX7_gap_34 : decode cX7_gap 34 = .ok (.aload_n 0, 1) := by decide +kernel
theorem dX7_gap_35 : decode cX7_gap 35 = .ok (.iload_n 1, 1) := by decide +kernel
theorem dX7_gap_36 : decode cX7_gap 36 = .ok (.iload 4, 2) := by decide +kernel
theorem dX7_gap_38 : decode cX7_gap 38 = .ok (.invokevirtual 351, 3) := by decide +kernel
theorem dX7_gap_41 : decode cX7_gap 41 = .ok (.aload_n 0, 1) := by decide +kernel
theorem dX7_gap_42 : decode cX7_gap 42 = .ok (.iload_n 1, 1) := by decide +kernel
theorem dX7_gap_43 : decode cX7_gap 43 = .ok (.iload_n 3, 1) := by decide +kernel
theorem dX7_gap_44 : decode cX7_gap 44 = .ok (.invokevirtual 351, 3) := by decide +kernel
theorem dX7_gap_47 : decode cX7_gap 47 = .ok (.if_icmp .ge 8, 3) := by decide +kernel
theorem dX7_gap_50 : decode cX7_gap 50 = .ok (.iload 4, 2) := by decide +kernel
theorem dX7_gap_52 : decode cX7_gap 52 = .ok (.goto 4, 3) := by decide +kernel
theorem dX7_gap_55 : decode cX7_gap 55 = .ok (.iload_n 3, 1) := by decide +kernel
theorem dX7_gap_56 : decode cX7_gap 56 = .ok (.istore_n 3, 1) := by decide +kernel
theorem dX7_gap_57 : decode cX7_gap 57 = .ok (.iinc 4 1, 3) := by decide +kernel
theorem dX7_gap_60 : decode cX7_gap 60 = .ok (.goto (-33), 3) := by decide +kernel
theorem dX7_gap_63 : decode cX7_gap 63 = .ok (.iload_n 2, 1) := by decide +kernel
theorem dX7_gap_64 : decode cX7_gap 64 = .ok (.ifCond .ne 7, 3) := by decide +kernel
theorem dX7_gap_67 : decode cX7_gap 67 = .ok (.iload_n 3, 1) := by decide +kernel
theorem dX7_gap_68 : decode cX7_gap 68 = .ok (.goto 9, 3) := by decide +kernel
theorem dX7_gap_71 : decode cX7_gap 71 = .ok (.aload_n 0, 1) := by decide +kernel
theorem dX7_gap_72 : decode cX7_gap 72 = .ok (.iload_n 1, 1) := by decide +kernel
theorem dX7_gap_73 : decode cX7_gap 73 = .ok (.iload_n 3, 1) := by decide +kernel
theorem dX7_gap_74 : decode cX7_gap 74 = .ok (.invokevirtual 351, 3) := by decide +kernel
theorem dX7_gap_77 : decode cX7_gap 77 = .ok (.ireturn, 1) := by decide +kernel
theorem dX7_faded_0 : decode cX7_faded 0 = .ok (.aload_n 0, 1) := by decide +kernel
theorem dX7_faded_1 : decode cX7_faded 1 = .ok (.iload_n 1, 1) := by decide +kernel
theorem dX7_faded_2 : decode cX7_faded 2 = .ok (.invokevirtual 86, 3) := by decide +kernel
theorem dX7_faded_5 : decode cX7_faded 5 = .ok (.ifCond .eq 15, 3) := by decide +kernel
theorem dX7_faded_8 : decode cX7_faded 8 = .ok (.iload_n 2, 1) := by decide +kernel
theorem dX7_faded_9 : decode cX7_faded 9 = .ok (.i2l, 1) := by decide +kernel
theorem dX7_faded_10 : decode cX7_faded 10 = .ok (.lconst 0, 1) := by decide +kernel
theorem dX7_faded_11 : decode cX7_faded 11 = .ok (.ldc2_w 389, 3) := by decide +kernel
theorem dX7_faded_14 : decode cX7_faded 14 = .ok (.invokestatic 76, 3) := by decide +kernel
theorem dX7_faded_17 : decode cX7_faded 17 = .ok (.ifCond .ne 6, 3) := by decide +kernel
theorem dX7_faded_20 : decode cX7_faded 20 = .ok (.bipush (-2), 2) := by decide +kernel
theorem dX7_faded_22 : decode cX7_faded 22 = .ok (.ireturn, 1) := by decide +kernel
theorem dX7_faded_23 : decode cX7_faded 23 = .ok (.aload_n 0, 1) := by decide +kernel
theorem dX7_faded_24 : decode cX7_faded 24 = .ok (.iload_n 1, 1) := by decide +kernel
theorem dX7_faded_25 : decode cX7_faded 25 = .ok (.invokevirtual 375, 3) := by decide +kernel
theorem dX7_faded_28 : decode cX7_faded 28 = .ok (.iconst 0, 1) := by decide +kernel
theorem dX7_faded_29 : decode cX7_faded 29 = .ok (.istore_n 3, 1) := by decide +kernel
theorem dX7_faded_30 : decode cX7_faded 30 = .ok (.iload_n 3, 1) := by decide +kernel
theorem dX7_faded_31 : decode cX7_faded 31 = .ok (.iload_n 2, 1) := by decide +kernel
theorem dX7_faded_32 : decode cX7_faded 32 = .ok (.if_icmp .ge 24, 3) := by decide +kernel
theorem dX7_faded_35 : decode cX7_faded 35 = .ok (.aload_n 0, 1) := by decide +kernel
theorem dX7_faded_36 : decode cX7_faded 36 = .ok (.iload_n 1, 1) := by decide +kernel
theorem dX7_faded_37 : decode cX7_faded 37 = .ok (.invokevirtual 365, 3) := by decide +kernel
theorem dX7_faded_40 : decode cX7_faded 40 = .ok (.aload_n 0, 1) := by decide +kernel
theorem dX7_faded_41 : decode cX7_faded 41 = .ok (.dup, 1) := by decide +kernel
theorem dX7_faded_42 : decode cX7_faded 42 = .ok (.getfield 111, 3) := by decide +kernel
theorem dX7_faded_45 : decode cX7_faded 45 = .ok (.iconst 1, 1) := by decide +kernel
theorem dX7_faded_46 : decode cX7_faded 46 = .ok (.iadd, 1) := by decide +kernel
theorem dX7_faded_47 : decode cX7_faded 47 = .ok (.putfield 111, 3) := by decide +kernel
theorem dX7_faded_50 : decode cX7_faded 50 = .ok (.iinc 3 1, 3) := by decide +kernel
theorem dX7_faded_53 : decode cX7_faded 53 = .ok (.goto (-23), 3) := by decide +kernel
theorem dX7_faded_56 : decode cX7_faded 56 = .ok (.aload_n 0, 1) := by decide +kernel
theorem dX7_faded_57 : decode cX7_faded 57 = .ok (.iload_n 1, 1) := by decide +kernel
theorem dX7_faded_58 : decode cX7_faded 58 = .ok (.invokevirtual 131, 3) := by decide +kernel
theorem dX7_faded_61 : decode cX7_faded 61 = .ok (.istore_n 3, 1) := by decide +kernel
theorem dX7_faded_62 : decode cX7_faded 62 = .ok (.aload_n 0, 1) := by decide +kernel
theorem dX7_faded_63 : decode cX7_faded 63 = .ok (.iload_n 1, 1) := by decide +kernel
theorem dX7_faded_64 : decode cX7_faded 64 = .ok (.invokevirtual 381, 3) := by decide +kernel
theorem dX7_faded_67 : decode cX7_faded 67 = .ok (.iload_n 3, 1) := by decide +kernel
theorem dX7_faded_68 : decode cX7_faded 68 = .ok (.ireturn, 1) := by decide +kernel
theorem dX7_lowest_0 : decode cX7_lowest 0 = .ok (.lload_n 0, 1) := by decide +kernel
theorem dX7_lowest_1 : decode cX7_lowest 1 = .ok (.lstore 5, 2) := by decide +kernel
theorem dX7_lowest_3 : decode cX7_lowest 3 = .ok (.lload_n 2, 1) := by decide +kernel
theorem dX7_lowest_4 : decode cX7_lowest 4 = .ok (.lstore 7, 2) := by decide +kernel
theorem dX7_lowest_6 : decode cX7_lowest 6 = .ok (.lload 7, 2) := by decide +kernel
theorem dX7_lowest_8 : decode cX7_lowest 8 = .ok (.lconst 0, 1) := by decide +kernel
theorem dX7_lowest_9 : decode cX7_lowest 9 = .ok (.lcmp, 1) := by decide +kernel
theorem dX7_lowest_10 : decode cX7_lowest 10 = .ok (.ifCond .eq 21, 3) := by decide +kernel
theorem dX7_lowest_13 : decode cX7_lowest 13 = .ok (.lload 5, 2) := by decide +kernel
theorem dX7_lowest_15 : decode cX7_lowest 15 = .ok (.lload 7, 2) := by decide +kernel
theorem dX7_lowest_17 : decode cX7_lowest 17 = .ok (.lrem, 1) := by decide +kernel
theorem dX7_lowest_18 : decode cX7_lowest 18 = .ok (.lstore 9, 2) := by decide +kernel
theorem dX7_lowest_20 : decode cX7_lowest 20 = .ok (.lload 7, 2) := by decide +kernel
theorem dX7_lowest_22 : decode cX7_lowest 22 = .ok (.lstore 5, 2) := by decide +kernel
theorem dX7_lowest_24 : decode cX7_lowest 24 = .ok (.lload 9, 2) := by decide +kernel
theorem dX7_lowest_26 : decode cX7_lowest 26 = .ok (.lstore 7, 2) := by decide +kernel
theorem dX7_lowest_28 : decode cX7_lowest 28 = .ok (.goto (-22), 3) := by decide +kernel
theorem dX7_lowest_31 : decode cX7_lowest 31 = .ok (.iload 4, 2) := by decide +kernel
theorem dX7_lowest_33 : decode cX7_lowest 33 = .ok (.ifCond .ne 10, 3) := by decide +kernel
theorem dX7_lowest_36 : decode cX7_lowest 36 = .ok (.lload_n 0, 1) := by decide +kernel
theorem dX7_lowest_37 : decode cX7_lowest 37 = .ok (.lload 5, 2) := by decide +kernel
theorem dX7_lowest_39 : decode cX7_lowest 39 = .ok (.ldiv, 1) := by decide +kernel
theorem dX7_lowest_40 : decode cX7_lowest 40 = .ok (.goto 7, 3) := by decide +kernel
theorem dX7_lowest_43 : decode cX7_lowest 43 = .ok (.lload_n 2, 1) := by decide +kernel
theorem dX7_lowest_44 : decode cX7_lowest 44 = .ok (.lload 5, 2) := by decide +kernel
theorem dX7_lowest_46 : decode cX7_lowest 46 = .ok (.ldiv, 1) := by decide +kernel
theorem dX7_lowest_47 : decode cX7_lowest 47 = .ok (.lreturn, 1) := by decide +kernel
theorem dX7_test_0 : decode cX7_test 0 = .ok (.aload_n 0, 1) := by decide +kernel
theorem dX7_test_1 : decode cX7_test 1 = .ok (.iload_n 1, 1) := by decide +kernel
theorem dX7_test_2 : decode cX7_test 2 = .ok (.invokevirtual 86, 3) := by decide +kernel
theorem dX7_test_5 : decode cX7_test 5 = .ok (.ifCond .eq 25, 3) := by decide +kernel
theorem dX7_test_8 : decode cX7_test 8 = .ok (.iload_n 2, 1) := by decide +kernel
theorem dX7_test_9 : decode cX7_test 9 = .ok (.i2l, 1) := by decide +kernel
theorem dX7_test_10 : decode cX7_test 10 = .ok (.lconst 0, 1) := by decide +kernel
theorem dX7_test_11 : decode cX7_test 11 = .ok (.ldc2_w 134, 3) := by decide +kernel
theorem dX7_test_14 : decode cX7_test 14 = .ok (.invokestatic 76, 3) := by decide +kernel
theorem dX7_test_17 : decode cX7_test 17 = .ok (.ifCond .eq 13, 3) := by decide +kernel
theorem dX7_test_20 : decode cX7_test 20 = .ok (.iload_n 3, 1) := by decide +kernel
theorem dX7_test_21 : decode cX7_test 21 = .ok (.i2l, 1) := by decide +kernel
theorem dX7_test_22 : decode cX7_test 22 = .ok (.lconst 0, 1) := by decide +kernel
theorem dX7_test_23 : decode cX7_test 23 = .ok (.lconst 1, 1) := by decide +kernel
theorem dX7_test_24 : decode cX7_test 24 = .ok (.invokestatic 76, 3) := by decide +kernel
theorem dX7_test_27 : decode cX7_test 27 = .ok (.ifCond .ne 7, 3) := by decide +kernel
theorem dX7_test_30 : decode cX7_test 30 = .ok (.ldc2_w 391, 3) := by decide +kernel
theorem dX7_test_33 : decode cX7_test 33 = .ok (.lreturn, 1) := by decide +kernel
theorem dX7_test_34 : decode cX7_test 34 = .ok (.lconst 1, 1) := by decide +kernel
theorem dX7_test_35 : decode cX7_test 35 = .ok (.lstore 4, 2) := by decide +kernel
theorem dX7_test_37 : decode cX7_test 37 = .ok (.lconst 1, 1) := by decide +kernel
theorem dX7_test_38 : decode cX7_test 38 = .ok (.lstore 6, 2) := by decide +kernel
theorem dX7_test_40 : decode cX7_test 40 = .ok (.iconst 0, 1) := by decide +kernel
theorem dX7_test_41 : decode cX7_test 41 = .ok (.istore 8, 2) := by decide +kernel
theorem dX7_test_43 : decode cX7_test 43 = .ok (.iload 8, 2) := by decide +kernel
theorem dX7_test_45 : decode cX7_test 45 = .ok (.bipush 8, 2) := by decide +kernel
theorem dX7_test_47 : decode cX7_test 47 = .ok (.if_icmp .ge 44, 3) := by decide +kernel
theorem dX7_test_50 : decode cX7_test 50 = .ok (.iload_n 2, 1) := by decide +kernel
theorem dX7_test_51 : decode cX7_test 51 = .ok (.iload 8, 2) := by decide +kernel
theorem dX7_test_53 : decode cX7_test 53 = .ok (.ishr, 1) := by decide +kernel
theorem dX7_test_54 : decode cX7_test 54 = .ok (.iconst 1, 1) := by decide +kernel
theorem dX7_test_55 : decode cX7_test 55 = .ok (.iand, 1) := by decide +kernel
theorem dX7_test_56 : decode cX7_test 56 = .ok (.iconst 1, 1) := by decide +kernel
theorem dX7_test_57 : decode cX7_test 57 = .ok (.if_icmp .ne 28, 3) := by decide +kernel
theorem dX7_test_60 : decode cX7_test 60 = .ok (.lload 4, 2) := by decide +kernel
theorem dX7_test_62 : decode cX7_test 62 = .ok (.aload_n 0, 1) := by decide +kernel
theorem dX7_test_63 : decode cX7_test 63 = .ok (.getfield 32, 3) := by decide +kernel
theorem dX7_test_66 : decode cX7_test 66 = .ok (.iload_n 1, 1) := by decide +kernel
theorem dX7_test_67 : decode cX7_test 67 = .ok (.iload 8, 2) := by decide +kernel
theorem dX7_test_69 : decode cX7_test 69 = .ok (.invokestatic 114, 3) := by decide +kernel
theorem dX7_test_72 : decode cX7_test 72 = .ok (.iaload, 1) := by decide +kernel
theorem dX7_test_73 : decode cX7_test 73 = .ok (.i2l, 1) := by decide +kernel
theorem dX7_test_74 : decode cX7_test 74 = .ok (.lmul, 1) := by decide +kernel
theorem dX7_test_75 : decode cX7_test 75 = .ok (.lstore 4, 2) := by decide +kernel
theorem dX7_test_77 : decode cX7_test 77 = .ok (.lload 6, 2) := by decide +kernel
theorem dX7_test_79 : decode cX7_test 79 = .ok (.ldc2_w 393, 3) := by decide +kernel
theorem dX7_test_82 : decode cX7_test 82 = .ok (.lmul, 1) := by decide +kernel
theorem dX7_test_83 : decode cX7_test 83 = .ok (.lstore 6, 2) := by decide +kernel
theorem dX7_test_85 : decode cX7_test 85 = .ok (.iinc 8 1, 3) := by decide +kernel
theorem dX7_test_88 : decode cX7_test 88 = .ok (.goto (-45), 3) := by decide +kernel
theorem dX7_test_91 : decode cX7_test 91 = .ok (.lload 4, 2) := by decide +kernel
theorem dX7_test_93 : decode cX7_test 93 = .ok (.lload 6, 2) := by decide +kernel
theorem dX7_test_95 : decode cX7_test 95 = .ok (.iload_n 3, 1) := by decide +kernel
theorem dX7_test_96 : decode cX7_test 96 = .ok (.invokestatic 395, 3) := by decide +kernel
theorem dX7_test_99 : decode cX7_test 99 = .ok (.lreturn, 1) := by decide +kernel
theorem dX7_firstOther_0 : decode cX7_firstOther 0 = .ok (.iconst (-1), 1) := by decide +kernel
theorem dX7_firstOther_1 : decode cX7_firstOther 1 = .ok (.istore 5, 2) := by decide +kernel
theorem dX7_firstOther_3 : decode cX7_firstOther 3 = .ok (.aload_n 0, 1) := by decide +kernel
theorem dX7_firstOther_4 : decode cX7_firstOther 4 = .ok (.iload_n 2, 1) := by decide +kernel
theorem dX7_firstOther_5 : decode cX7_firstOther 5 = .ok (.invokevirtual 375, 3) := by decide +kernel
theorem dX7_firstOther_8 : decode cX7_firstOther 8 = .ok (.iconst 0, 1) := by decide +kernel
theorem dX7_firstOther_9 : decode cX7_firstOther 9 = .ok (.istore 6, 2) := by decide +kernel
theorem dX7_firstOther_11 : decode cX7_firstOther 11 = .ok (.iload 6, 2) := by decide +kernel
theorem dX7_firstOther_13 : decode cX7_firstOther 13 = .ok (.aload_n 0, 1) := by decide +kernel
theorem dX7_firstOther_14 : decode cX7_firstOther 14 = .ok (.getfield 60, 3) := by decide +kernel
theorem dX7_firstOther_17 : decode cX7_firstOther 17 = .ok (.iload_n 1, 1) := by decide +kernel
theorem dX7_firstOther_18 : decode cX7_firstOther 18 = .ok (.iaload, 1) := by decide +kernel
theorem dX7_firstOther_19 : decode cX7_firstOther 19 = .ok (.if_icmp .ge 56, 3) := by decide +kernel
theorem dX7_firstOther_22 : decode cX7_firstOther 22 = .ok (.iload 5, 2) := by decide +kernel
theorem dX7_firstOther_24 : decode cX7_firstOther 24 = .ok (.iconst (-1), 1) := by decide +kernel
theorem dX7_firstOther_25 : decode cX7_firstOther 25 = .ok (.if_icmp .ne 50, 3) := by decide +kernel
theorem dX7_firstOther_28 : decode cX7_firstOther 28 = .ok (.aload_n 0, 1) := by decide +kernel
theorem dX7_firstOther_29 : decode cX7_firstOther 29 = .ok (.iload_n 2, 1) := by decide +kernel
theorem dX7_firstOther_30 : decode cX7_firstOther 30 = .ok (.iload_n 3, 1) := by decide +kernel
theorem dX7_firstOther_31 : decode cX7_firstOther 31 = .ok (.iload 4, 2) := by decide +kernel
theorem dX7_firstOther_33 : decode cX7_firstOther 33 = .ok (.invokevirtual 362, 3) := by decide +kernel
theorem dX7_firstOther_36 : decode cX7_firstOther 36 = .ok (.aload_n 0, 1) := by decide +kernel
theorem dX7_firstOther_37 : decode cX7_firstOther 37 = .ok (.getfield 32, 3) := by decide +kernel
theorem dX7_firstOther_40 : decode cX7_firstOther 40 = .ok (.iload_n 2, 1) := by decide +kernel
theorem dX7_firstOther_41 : decode cX7_firstOther 41 = .ok (.iload_n 3, 1) := by decide +kernel
theorem dX7_firstOther_42 : decode cX7_firstOther 42 = .ok (.invokestatic 114, 3) := by decide +kernel
theorem dX7_firstOther_45 : decode cX7_firstOther 45 = .ok (.iaload, 1) := by decide +kernel
theorem dX7_firstOther_46 : decode cX7_firstOther 46 = .ok (.aload_n 0, 1) := by decide +kernel
theorem dX7_firstOther_47 : decode cX7_firstOther 47 = .ok (.getfield 63, 3) := by decide +kernel
theorem dX7_firstOther_50 : decode cX7_firstOther 50 = .ok (.bipush 40, 2) := by decide +kernel
theorem dX7_firstOther_52 : decode cX7_firstOther 52 = .ok (.iload_n 1, 1) := by decide +kernel
theorem dX7_firstOther_53 : decode cX7_firstOther 53 = .ok (.imul, 1) := by decide +kernel
theorem dX7_firstOther_54 : decode cX7_firstOther 54 = .ok (.iload 6, 2) := by decide +kernel
theorem dX7_firstOther_56 : decode cX7_firstOther 56 = .ok (.iadd, 1) := by decide +kernel
theorem dX7_firstOther_57 : decode cX7_firstOther 57 = .ok (.iaload, 1) := by decide +kernel
theorem dX7_firstOther_58 : decode cX7_firstOther 58 = .ok (.if_icmp .ne 7, 3) := by decide +kernel
theorem dX7_firstOther_61 : decode cX7_firstOther 61 = .ok (.iconst (-1), 1) := by decide +kernel
theorem dX7_firstOther_62 : decode cX7_firstOther 62 = .ok (.goto 5, 3) := by decide +kernel
theorem dX7_firstOther_65 : decode cX7_firstOther 65 = .ok (.iload 6, 2) := by decide +kernel
theorem dX7_firstOther_67 : decode cX7_firstOther 67 = .ok (.istore 5, 2) := by decide +kernel
theorem dX7_firstOther_69 : decode cX7_firstOther 69 = .ok (.iinc 6 1, 3) := by decide +kernel
theorem dX7_firstOther_72 : decode cX7_firstOther 72 = .ok (.goto (-61), 3) := by decide +kernel
theorem dX7_firstOther_75 : decode cX7_firstOther 75 = .ok (.aload_n 0, 1) := by decide +kernel
theorem dX7_firstOther_76 : decode cX7_firstOther 76 = .ok (.iload_n 2, 1) := by decide +kernel
theorem dX7_firstOther_77 : decode cX7_firstOther 77 = .ok (.invokevirtual 381, 3) := by decide +kernel
theorem dX7_firstOther_80 : decode cX7_firstOther 80 = .ok (.iload 5, 2) := by decide +kernel
theorem dX7_firstOther_82 : decode cX7_firstOther 82 = .ok (.ireturn, 1) := by decide +kernel
theorem dX7_isStreetHelp_0 : decode cX7_isStreetHelp 0 = .ok (.iload_n 0, 1) := by decide +kernel
theorem dX7_isStreetHelp_1 : decode cX7_isStreetHelp 1 = .ok (.i2l, 1) := by decide +kernel
theorem dX7_isStreetHelp_2 : decode cX7_isStreetHelp 2 = .ok (.lconst 0, 1) := by decide +kernel
theorem dX7_isStreetHelp_3 : decode cX7_isStreetHelp 3 = .ok (.ldc2_w 399, 3) := by decide +kernel
theorem dX7_isStreetHelp_6 : decode cX7_isStreetHelp 6 = .ok (.invokestatic 76, 3) := by decide +kernel
theorem dX7_isStreetHelp_9 : decode cX7_isStreetHelp 9 = .ok (.ifCond .eq 15, 3) := by decide +kernel
theorem dX7_isStreetHelp_12 : decode cX7_isStreetHelp 12 = .ok (.iload_n 0, 1) := by decide +kernel
theorem dX7_isStreetHelp_13 : decode cX7_isStreetHelp 13 = .ok (.bipush 10, 2) := by decide +kernel
theorem dX7_isStreetHelp_15 : decode cX7_isStreetHelp 15 = .ok (.irem, 1) := by decide +kernel
theorem dX7_isStreetHelp_16 : decode cX7_isStreetHelp 16 = .ok (.iconst 3, 1) := by decide +kernel
theorem dX7_isStreetHelp_17 : decode cX7_isStreetHelp 17 = .ok (.if_icmp .ge 7, 3) := by decide +kernel
theorem dX7_isStreetHelp_20 : decode cX7_isStreetHelp 20 = .ok (.iconst 1, 1) := by decide +kernel
theorem dX7_isStreetHelp_21 : decode cX7_isStreetHelp 21 = .ok (.goto 4, 3) := by decide +kernel
theorem dX7_isStreetHelp_24 : decode cX7_isStreetHelp 24 = .ok (.iconst 0, 1) := by decide +kernel
theorem dX7_isStreetHelp_25 : decode cX7_isStreetHelp 25 = .ok (.ireturn, 1) := by decide +kernel
theorem dX7_helpsBy_0 : decode cX7_helpsBy 0 = .ok (.iconst 0, 1) := by decide +kernel
theorem dX7_helpsBy_1 : decode cX7_helpsBy 1 = .ok (.istore 4, 2) := by decide +kernel
theorem dX7_helpsBy_3 : decode cX7_helpsBy 3 = .ok (.iconst 0, 1) := by decide +kernel
theorem dX7_helpsBy_4 : decode cX7_helpsBy 4 = .ok (.istore 5, 2) := by decide +kernel
theorem dX7_helpsBy_6 : decode cX7_helpsBy 6 = .ok (.iload 5, 2) := by decide +kernel
theorem dX7_helpsBy_8 : decode cX7_helpsBy 8 = .ok (.iconst 3, 1) := by decide +kernel
theorem dX7_helpsBy_9 : decode cX7_helpsBy 9 = .ok (.if_icmp .ge 35, 3) := by decide +kernel
theorem dX7_helpsBy_12 : decode cX7_helpsBy 12 = .ok (.iload 4, 2) := by decide +kernel
theorem dX7_helpsBy_14 : decode cX7_helpsBy 14 = .ok (.aload_n 0, 1) := by decide +kernel
theorem dX7_helpsBy_15 : decode cX7_helpsBy 15 = .ok (.iload_n 1, 1) := by decide +kernel
theorem dX7_helpsBy_16 : decode cX7_helpsBy 16 = .ok (.iload_n 2, 1) := by decide +kernel
theorem dX7_helpsBy_17 : decode cX7_helpsBy 17 = .ok (.iload_n 3, 1) := by decide +kernel
theorem dX7_helpsBy_18 : decode cX7_helpsBy 18 = .ok (.iload 5, 2) := by decide +kernel
theorem dX7_helpsBy_20 : decode cX7_helpsBy 20 = .ok (.invokevirtual 401, 3) := by decide +kernel
theorem dX7_helpsBy_23 : decode cX7_helpsBy 23 = .ok (.iconst (-1), 1) := by decide +kernel
theorem dX7_helpsBy_24 : decode cX7_helpsBy 24 = .ok (.if_icmp .ne 7, 3) := by decide +kernel
theorem dX7_helpsBy_27 : decode cX7_helpsBy 27 = .ok (.iconst 1, 1) := by decide +kernel
theorem dX7_helpsBy_28 : decode cX7_helpsBy 28 = .ok (.goto 4, 3) := by decide +kernel
theorem dX7_helpsBy_31 : decode cX7_helpsBy 31 = .ok (.iconst 0, 1) := by decide +kernel
theorem dX7_helpsBy_32 : decode cX7_helpsBy 32 = .ok (.iload 5, 2) := by decide +kernel
theorem dX7_helpsBy_34 : decode cX7_helpsBy 34 = .ok (.ishl, 1) := by decide +kernel
theorem dX7_helpsBy_35 : decode cX7_helpsBy 35 = .ok (.ior, 1) := by decide +kernel
theorem dX7_helpsBy_36 : decode cX7_helpsBy 36 = .ok (.istore 4, 2) := by decide +kernel
theorem dX7_helpsBy_38 : decode cX7_helpsBy 38 = .ok (.iinc 5 1, 3) := by decide +kernel
theorem dX7_helpsBy_41 : decode cX7_helpsBy 41 = .ok (.goto (-35), 3) := by decide +kernel
theorem dX7_helpsBy_44 : decode cX7_helpsBy 44 = .ok (.iload 4, 2) := by decide +kernel
theorem dX7_helpsBy_46 : decode cX7_helpsBy 46 = .ok (.ireturn, 1) := by decide +kernel
theorem dX7_tells_0 : decode cX7_tells 0 = .ok (.iload_n 1, 1) := by decide +kernel
theorem dX7_tells_1 : decode cX7_tells 1 = .ok (.invokestatic 404, 3) := by decide +kernel
theorem dX7_tells_4 : decode cX7_tells 4 = .ok (.ifCond .eq 31, 3) := by decide +kernel
theorem dX7_tells_7 : decode cX7_tells 7 = .ok (.aload_n 0, 1) := by decide +kernel
theorem dX7_tells_8 : decode cX7_tells 8 = .ok (.iload_n 2, 1) := by decide +kernel
theorem dX7_tells_9 : decode cX7_tells 9 = .ok (.invokevirtual 86, 3) := by decide +kernel
theorem dX7_tells_12 : decode cX7_tells 12 = .ok (.ifCond .eq 23, 3) := by decide +kernel
theorem dX7_tells_15 : decode cX7_tells 15 = .ok (.iload_n 3, 1) := by decide +kernel
theorem dX7_tells_16 : decode cX7_tells 16 = .ok (.invokestatic 407, 3) := by decide +kernel
theorem dX7_tells_19 : decode cX7_tells 19 = .ok (.ifCond .eq 16, 3) := by decide +kernel
theorem dX7_tells_22 : decode cX7_tells 22 = .ok (.iload 4, 2) := by decide +kernel
theorem dX7_tells_24 : decode cX7_tells 24 = .ok (.i2l, 1) := by decide +kernel
theorem dX7_tells_25 : decode cX7_tells 25 = .ok (.lconst 0, 1) := by decide +kernel
theorem dX7_tells_26 : decode cX7_tells 26 = .ok (.ldc2_w 410, 3) := by decide +kernel
theorem dX7_tells_29 : decode cX7_tells 29 = .ok (.invokestatic 76, 3) := by decide +kernel
theorem dX7_tells_32 : decode cX7_tells 32 = .ok (.ifCond .ne 6, 3) := by decide +kernel
theorem dX7_tells_35 : decode cX7_tells 35 = .ok (.bipush (-2), 2) := by decide +kernel
theorem dX7_tells_37 : decode cX7_tells 37 = .ok (.ireturn, 1) := by decide +kernel
theorem dX7_tells_38 : decode cX7_tells 38 = .ok (.aload_n 0, 1) := by decide +kernel
theorem dX7_tells_39 : decode cX7_tells 39 = .ok (.getfield 53, 3) := by decide +kernel
theorem dX7_tells_42 : decode cX7_tells 42 = .ok (.iload_n 1, 1) := by decide +kernel
theorem dX7_tells_43 : decode cX7_tells 43 = .ok (.baload, 1) := by decide +kernel
theorem dX7_tells_44 : decode cX7_tells 44 = .ok (.ifCond .ne 6, 3) := by decide +kernel
theorem dX7_tells_47 : decode cX7_tells 47 = .ok (.bipush (-11), 2) := by decide +kernel
theorem dX7_tells_49 : decode cX7_tells 49 = .ok (.ireturn, 1) := by decide +kernel
theorem dX7_tells_50 : decode cX7_tells 50 = .ok (.iload_n 3, 1) := by decide +kernel
theorem dX7_tells_51 : decode cX7_tells 51 = .ok (.bipush 10, 2) := by decide +kernel
theorem dX7_tells_53 : decode cX7_tells 53 = .ok (.idiv, 1) := by decide +kernel
theorem dX7_tells_54 : decode cX7_tells 54 = .ok (.istore 5, 2) := by decide +kernel
theorem dX7_tells_56 : decode cX7_tells 56 = .ok (.iload_n 3, 1) := by decide +kernel
theorem dX7_tells_57 : decode cX7_tells 57 = .ok (.bipush 10, 2) := by decide +kernel
theorem dX7_tells_59 : decode cX7_tells 59 = .ok (.irem, 1) := by decide +kernel
theorem dX7_tells_60 : decode cX7_tells 60 = .ok (.istore 6, 2) := by decide +kernel
theorem dX7_tells_62 : decode cX7_tells 62 = .ok (.iload 4, 2) := by decide +kernel
theorem dX7_tells_64 : decode cX7_tells 64 = .ok (.ifCond .ne 14, 3) := by decide +kernel
theorem dX7_tells_67 : decode cX7_tells 67 = .ok (.aload_n 0, 1) := by decide +kernel
theorem dX7_tells_68 : decode cX7_tells 68 = .ok (.iload_n 1, 1) := by decide +kernel
theorem dX7_tells_69 : decode cX7_tells 69 = .ok (.iload_n 2, 1) := by decide +kernel
theorem dX7_tells_70 : decode cX7_tells 70 = .ok (.iload 5, 2) := by decide +kernel
theorem dX7_tells_72 : decode cX7_tells 72 = .ok (.iload 6, 2) := by decide +kernel
theorem dX7_tells_74 : decode cX7_tells 74 = .ok (.invokevirtual 401, 3) := by decide +kernel
theorem dX7_tells_77 : decode cX7_tells 77 = .ok (.ireturn, 1) := by decide +kernel
theorem dX7_tells_78 : decode cX7_tells 78 = .ok (.iload 4, 2) := by decide +kernel
theorem dX7_tells_80 : decode cX7_tells 80 = .ok (.iconst 3, 1) := by decide +kernel
theorem dX7_tells_81 : decode cX7_tells 81 = .ok (.if_icmp .ne 12, 3) := by decide +kernel
theorem dX7_tells_84 : decode cX7_tells 84 = .ok (.aload_n 0, 1) := by decide +kernel
theorem dX7_tells_85 : decode cX7_tells 85 = .ok (.iload_n 1, 1) := by decide +kernel
theorem dX7_tells_86 : decode cX7_tells 86 = .ok (.iload_n 2, 1) := by decide +kernel
theorem dX7_tells_87 : decode cX7_tells 87 = .ok (.iload 5, 2) := by decide +kernel
theorem dX7_tells_89 : decode cX7_tells 89 = .ok (.invokevirtual 412, 3) := by decide +kernel
theorem dX7_tells_92 : decode cX7_tells 92 = .ok (.ireturn, 1) := by decide +kernel
theorem dX7_tells_93 : decode cX7_tells 93 = .ok (.iload 4, 2) := by decide +kernel
theorem dX7_tells_95 : decode cX7_tells 95 = .ok (.iconst 1, 1) := by decide +kernel
theorem dX7_tells_96 : decode cX7_tells 96 = .ok (.if_icmp .ne 7, 3) := by decide +kernel
theorem dX7_tells_99 : decode cX7_tells 99 = .ok (.iconst 5, 1) := by decide +kernel
theorem dX7_tells_100 : decode cX7_tells 100 = .ok (.goto 41, 3) := by decide +kernel
theorem dX7_tells_103 : decode cX7_tells 103 = .ok (.iload 4, 2) := by decide +kernel
theorem dX7_tells_105 : decode cX7_tells 105 = .ok (.iconst 2, 1) := by decide +kernel
theorem dX7_tells_106 : decode cX7_tells 106 = .ok (.if_icmp .ne 7, 3) := by decide +kernel
theorem dX7_tells_109 : decode cX7_tells 109 = .ok (.iconst 2, 1) := by decide +kernel
theorem dX7_tells_110 : decode cX7_tells 110 = .ok (.goto 31, 3) := by decide +kernel
theorem dX7_tells_113 : decode cX7_tells 113 = .ok (.iload 4, 2) := by decide +kernel
theorem dX7_tells_115 : decode cX7_tells 115 = .ok (.bipush 6, 2) := by decide +kernel
theorem dX7_tells_117 : decode cX7_tells 117 = .ok (.if_icmp .ge 11, 3) := by decide +kernel
theorem dX7_tells_120 : decode cX7_tells 120 = .ok (.bipush 10, 2) := by decide +kernel
theorem dX7_tells_122 : decode cX7_tells 122 = .ok (.iload 5, 2) := by decide +kernel
theorem dX7_tells_124 : decode cX7_tells 124 = .ok (.iadd, 1) := by decide +kernel
theorem dX7_tells_125 : decode cX7_tells 125 = .ok (.goto 16, 3) := by decide +kernel
theorem dX7_tells_128 : decode cX7_tells 128 = .ok (.iload 4, 2) := by decide +kernel
theorem dX7_tells_130 : decode cX7_tells 130 = .ok (.bipush 8, 2) := by decide +kernel
theorem dX7_tells_132 : decode cX7_tells 132 = .ok (.if_icmp .ge 7, 3) := by decide +kernel
theorem dX7_tells_135 : decode cX7_tells 135 = .ok (.iconst 1, 1) := by decide +kernel
theorem dX7_tells_136 : decode cX7_tells 136 = .ok (.goto 5, 3) := by decide +kernel
theorem dX7_tells_139 : decode cX7_tells 139 = .ok (.bipush 6, 2) := by decide +kernel
theorem dX7_tells_141 : decode cX7_tells 141 = .ok (.istore 7, 2) := by decide +kernel
theorem dX7_tells_143 : decode cX7_tells 143 = .ok (.iload 7, 2) := by decide +kernel
theorem dX7_tells_145 : decode cX7_tells 145 = .ok (.iconst 1, 1) := by decide +kernel
theorem dX7_tells_146 : decode cX7_tells 146 = .ok (.if_icmp .ne 8, 3) := by decide +kernel
theorem dX7_tells_149 : decode cX7_tells 149 = .ok (.iload 5, 2) := by decide +kernel
theorem dX7_tells_151 : decode cX7_tells 151 = .ok (.goto 4, 3) := by decide +kernel
theorem dX7_tells_154 : decode cX7_tells 154 = .ok (.iload_n 2, 1) := by decide +kernel
theorem dX7_tells_155 : decode cX7_tells 155 = .ok (.istore 8, 2) := by decide +kernel
theorem dX7_tells_157 : decode cX7_tells 157 = .ok (.iload 7, 2) := by decide +kernel
theorem dX7_tells_159 : decode cX7_tells 159 = .ok (.bipush 6, 2) := by decide +kernel
theorem dX7_tells_161 : decode cX7_tells 161 = .ok (.if_icmp .ne 10, 3) := by decide +kernel
theorem dX7_tells_164 : decode cX7_tells 164 = .ok (.aload_n 0, 1) := by decide +kernel
theorem dX7_tells_165 : decode cX7_tells 165 = .ok (.getfield 117, 3) := by decide +kernel
theorem dX7_tells_168 : decode cX7_tells 168 = .ok (.goto 11, 3) := by decide +kernel
theorem dX7_tells_171 : decode cX7_tells 171 = .ok (.aload_n 0, 1) := by decide +kernel
theorem dX7_tells_172 : decode cX7_tells 172 = .ok (.iload 8, 2) := by decide +kernel
theorem dX7_tells_174 : decode cX7_tells 174 = .ok (.iload 7, 2) := by decide +kernel
theorem dX7_tells_176 : decode cX7_tells 176 = .ok (.invokevirtual 103, 3) := by decide +kernel
theorem dX7_tells_179 : decode cX7_tells 179 = .ok (.istore 9, 2) := by decide +kernel
theorem dX7_tells_181 : decode cX7_tells 181 = .ok (.iload 7, 2) := by decide +kernel
theorem dX7_tells_183 : decode cX7_tells 183 = .ok (.bipush 6, 2) := by decide +kernel
theorem dX7_tells_185 : decode cX7_tells 185 = .ok (.if_icmp .ne 12, 3) := by decide +kernel
theorem dX7_tells_188 : decode cX7_tells 188 = .ok (.aload_n 0, 1) := by decide +kernel
theorem dX7_tells_189 : decode cX7_tells 189 = .ok (.getfield 70, 3) := by decide +kernel
theorem dX7_tells_192 : decode cX7_tells 192 = .ok (.iconst 1, 1) := by decide +kernel
theorem dX7_tells_193 : decode cX7_tells 193 = .ok (.isub, 1) := by decide +kernel
theorem dX7_tells_194 : decode cX7_tells 194 = .ok (.goto 18, 3) := by decide +kernel
theorem dX7_tells_197 : decode cX7_tells 197 = .ok (.iload 7, 2) := by decide +kernel
theorem dX7_tells_199 : decode cX7_tells 199 = .ok (.iconst 5, 1) := by decide +kernel
theorem dX7_tells_200 : decode cX7_tells 200 = .ok (.if_icmp .ne 7, 3) := by decide +kernel
theorem dX7_tells_203 : decode cX7_tells 203 = .ok (.iconst 5, 1) := by decide +kernel
theorem dX7_tells_204 : decode cX7_tells 204 = .ok (.goto 8, 3) := by decide +kernel
theorem dX7_tells_207 : decode cX7_tells 207 = .ok (.iload 7, 2) := by decide +kernel
theorem dX7_tells_209 : decode cX7_tells 209 = .ok (.invokestatic 99, 3) := by decide +kernel
theorem dX7_tells_212 : decode cX7_tells 212 = .ok (.istore 10, 2) := by decide +kernel
theorem dX7_tells_214 : decode cX7_tells 214 = .ok (.iconst 0, 1) := by decide +kernel
theorem dX7_tells_215 : decode cX7_tells 215 = .ok (.istore 11, 2) := by decide +kernel
theorem dX7_tells_217 : decode cX7_tells 217 = .ok (.iconst 0, 1) := by decide +kernel
theorem dX7_tells_218 : decode cX7_tells 218 = .ok (.istore 12, 2) := by decide +kernel
theorem dX7_tells_220 : decode cX7_tells 220 = .ok (.iconst (-1), 1) := by decide +kernel
theorem dX7_tells_221 : decode cX7_tells 221 = .ok (.istore 13, 2) := by decide +kernel
theorem dX7_tells_223 : decode cX7_tells 223 = .ok (.iload 10, 2) := by decide +kernel
theorem dX7_tells_225 : decode cX7_tells 225 = .ok (.istore 14, 2) := by decide +kernel
theorem dX7_tells_227 : decode cX7_tells 227 = .ok (.iload 14, 2) := by decide +kernel
theorem dX7_tells_229 : decode cX7_tells 229 = .ok (.ifCond .lt 60, 3) := by decide +kernel
theorem dX7_tells_232 : decode cX7_tells 232 = .ok (.aload_n 0, 1) := by decide +kernel
theorem dX7_tells_233 : decode cX7_tells 233 = .ok (.iload 7, 2) := by decide +kernel
theorem dX7_tells_235 : decode cX7_tells 235 = .ok (.iload 8, 2) := by decide +kernel
theorem dX7_tells_237 : decode cX7_tells 237 = .ok (.iload 14, 2) := by decide +kernel
theorem dX7_tells_239 : decode cX7_tells 239 = .ok (.invokevirtual 107, 3) := by decide +kernel
theorem dX7_tells_242 : decode cX7_tells 242 = .ok (.aload_n 0, 1) := by decide +kernel
theorem dX7_tells_243 : decode cX7_tells 243 = .ok (.iload_n 1, 1) := by decide +kernel
theorem dX7_tells_244 : decode cX7_tells 244 = .ok (.iload_n 2, 1) := by decide +kernel
theorem dX7_tells_245 : decode cX7_tells 245 = .ok (.iload 5, 2) := by decide +kernel
theorem dX7_tells_247 : decode cX7_tells 247 = .ok (.iload 6, 2) := by decide +kernel
theorem dX7_tells_249 : decode cX7_tells 249 = .ok (.invokevirtual 401, 3) := by decide +kernel
theorem dX7_tells_252 : decode cX7_tells 252 = .ok (.iconst (-1), 1) := by decide +kernel
theorem dX7_tells_253 : decode cX7_tells 253 = .ok (.if_icmp .ne 30, 3) := by decide +kernel
theorem dX7_tells_256 : decode cX7_tells 256 = .ok (.iload 11, 2) := by decide +kernel
theorem dX7_tells_258 : decode cX7_tells 258 = .ok (.iload 14, 2) := by decide +kernel
theorem dX7_tells_260 : decode cX7_tells 260 = .ok (.bipush 10, 2) := by decide +kernel
theorem dX7_tells_262 : decode cX7_tells 262 = .ok (.if_icmp .ge 10, 3) := by decide +kernel
theorem dX7_tells_265 : decode cX7_tells 265 = .ok (.iconst 1, 1) := by decide +kernel
theorem dX7_tells_266 : decode cX7_tells 266 = .ok (.iload 14, 2) := by decide +kernel
theorem dX7_tells_268 : decode cX7_tells 268 = .ok (.ishl, 1) := by decide +kernel
theorem dX7_tells_269 : decode cX7_tells 269 = .ok (.goto 4, 3) := by decide +kernel
theorem dX7_tells_272 : decode cX7_tells 272 = .ok (.iconst 0, 1) := by decide +kernel
theorem dX7_tells_273 : decode cX7_tells 273 = .ok (.ior, 1) := by decide +kernel
theorem dX7_tells_274 : decode cX7_tells 274 = .ok (.istore 11, 2) := by decide +kernel
theorem dX7_tells_276 : decode cX7_tells 276 = .ok (.iinc 12 1, 3) := by decide +kernel
theorem dX7_tells_279 : decode cX7_tells 279 = .ok (.iload 14, 2) := by decide +kernel
theorem dX7_tells_281 : decode cX7_tells 281 = .ok (.istore 13, 2) := by decide +kernel
theorem dX7_tells_283 : decode cX7_tells 283 = .ok (.iinc 14 (-1), 3) := by decide +kernel
theorem dX7_tells_286 : decode cX7_tells 286 = .ok (.goto (-59), 3) := by decide +kernel
theorem dX7_tells_289 : decode cX7_tells 289 = .ok (.aload_n 0, 1) := by decide +kernel
theorem dX7_tells_290 : decode cX7_tells 290 = .ok (.iload 7, 2) := by decide +kernel
theorem dX7_tells_292 : decode cX7_tells 292 = .ok (.iload 8, 2) := by decide +kernel
theorem dX7_tells_294 : decode cX7_tells 294 = .ok (.iload 9, 2) := by decide +kernel
theorem dX7_tells_296 : decode cX7_tells 296 = .ok (.invokevirtual 107, 3) := by decide +kernel
theorem dX7_tells_299 : decode cX7_tells 299 = .ok (.iload 4, 2) := by decide +kernel
theorem dX7_tells_301 : decode cX7_tells 301 = .ok (.iconst 4, 1) := by decide +kernel
theorem dX7_tells_302 : decode cX7_tells 302 = .ok (.if_icmp .eq 10, 3) := by decide +kernel
theorem dX7_tells_305 : decode cX7_tells 305 = .ok (.iload 4, 2) := by decide +kernel
theorem dX7_tells_307 : decode cX7_tells 307 = .ok (.bipush 6, 2) := by decide +kernel
theorem dX7_tells_309 : decode cX7_tells 309 = .ok (.if_icmp .ne 8, 3) := by decide +kernel
theorem dX7_tells_312 : decode cX7_tells 312 = .ok (.iload 12, 2) := by decide +kernel
theorem dX7_tells_314 : decode cX7_tells 314 = .ok (.goto 23, 3) := by decide +kernel
theorem dX7_tells_317 : decode cX7_tells 317 = .ok (.iload 4, 2) := by decide +kernel
theorem dX7_tells_319 : decode cX7_tells 319 = .ok (.iconst 5, 1) := by decide +kernel
theorem dX7_tells_320 : decode cX7_tells 320 = .ok (.if_icmp .eq 10, 3) := by decide +kernel
theorem dX7_tells_323 : decode cX7_tells 323 = .ok (.iload 4, 2) := by decide +kernel
theorem dX7_tells_325 : decode cX7_tells 325 = .ok (.bipush 7, 2) := by decide +kernel
theorem dX7_tells_327 : decode cX7_tells 327 = .ok (.if_icmp .ne 8, 3) := by decide +kernel
theorem dX7_tells_330 : decode cX7_tells 330 = .ok (.iload 13, 2) := by decide +kernel
theorem dX7_tells_332 : decode cX7_tells 332 = .ok (.goto 5, 3) := by decide +kernel
theorem dX7_tells_335 : decode cX7_tells 335 = .ok (.iload 11, 2) := by decide +kernel
theorem dX7_tells_337 : decode cX7_tells 337 = .ok (.ireturn, 1) := by decide +kernel
theorem dX7_film_0 : decode cX7_film 0 = .ok (.iload_n 1, 1) := by decide +kernel
theorem dX7_film_1 : decode cX7_film 1 = .ok (.invokestatic 404, 3) := by decide +kernel
theorem dX7_film_4 : decode cX7_film 4 = .ok (.ifCond .eq 31, 3) := by decide +kernel
theorem dX7_film_7 : decode cX7_film 7 = .ok (.aload_n 0, 1) := by decide +kernel
theorem dX7_film_8 : decode cX7_film 8 = .ok (.iload_n 2, 1) := by decide +kernel
theorem dX7_film_9 : decode cX7_film 9 = .ok (.invokevirtual 86, 3) := by decide +kernel
theorem dX7_film_12 : decode cX7_film 12 = .ok (.ifCond .eq 23, 3) := by decide +kernel
theorem dX7_film_15 : decode cX7_film 15 = .ok (.iload_n 3, 1) := by decide +kernel
theorem dX7_film_16 : decode cX7_film 16 = .ok (.invokestatic 407, 3) := by decide +kernel
theorem dX7_film_19 : decode cX7_film 19 = .ok (.ifCond .eq 16, 3) := by decide +kernel
theorem dX7_film_22 : decode cX7_film 22 = .ok (.iload 4, 2) := by decide +kernel
theorem dX7_film_24 : decode cX7_film 24 = .ok (.i2l, 1) := by decide +kernel
theorem dX7_film_25 : decode cX7_film 25 = .ok (.lconst 0, 1) := by decide +kernel
theorem dX7_film_26 : decode cX7_film 26 = .ok (.ldc2_w 389, 3) := by decide +kernel
theorem dX7_film_29 : decode cX7_film 29 = .ok (.invokestatic 76, 3) := by decide +kernel
theorem dX7_film_32 : decode cX7_film 32 = .ok (.ifCond .ne 6, 3) := by decide +kernel
theorem dX7_film_35 : decode cX7_film 35 = .ok (.bipush (-2), 2) := by decide +kernel
theorem dX7_film_37 : decode cX7_film 37 = .ok (.ireturn, 1) := by decide +kernel
theorem dX7_film_38 : decode cX7_film 38 = .ok (.aload_n 0, 1) := by decide +kernel
theorem dX7_film_39 : decode cX7_film 39 = .ok (.iload_n 1, 1) := by decide +kernel
theorem dX7_film_40 : decode cX7_film 40 = .ok (.iconst 0, 1) := by decide +kernel
theorem dX7_film_41 : decode cX7_film 41 = .ok (.iload 4, 2) := by decide +kernel
theorem dX7_film_43 : decode cX7_film 43 = .ok (.invokevirtual 415, 3) := by decide +kernel
theorem dX7_film_46 : decode cX7_film 46 = .ok (.pop, 1) := by decide +kernel
theorem dX7_film_47 : decode cX7_film 47 = .ok (.aload_n 0, 1) := by decide +kernel
theorem dX7_film_48 : decode cX7_film 48 = .ok (.iload_n 2, 1) := by decide +kernel
theorem dX7_film_49 : decode cX7_film 49 = .ok (.invokevirtual 375, 3) := by decide +kernel
theorem dX7_film_52 : decode cX7_film 52 = .ok (.iconst 0, 1) := by decide +kernel
theorem dX7_film_53 : decode cX7_film 53 = .ok (.istore 5, 2) := by decide +kernel
theorem dX7_film_55 : decode cX7_film 55 = .ok (.iload 5, 2) := by decide +kernel
theorem dX7_film_57 : decode cX7_film 57 = .ok (.iload 4, 2) := by decide +kernel
theorem dX7_film_59 : decode cX7_film 59 = .ok (.if_icmp .ge 47, 3) := by decide +kernel
theorem dX7_film_62 : decode cX7_film 62 = .ok (.aload_n 0, 1) := by decide +kernel
theorem dX7_film_63 : decode cX7_film 63 = .ok (.iload_n 2, 1) := by decide +kernel
theorem dX7_film_64 : decode cX7_film 64 = .ok (.iload_n 3, 1) := by decide +kernel
theorem dX7_film_65 : decode cX7_film 65 = .ok (.bipush 10, 2) := by decide +kernel
theorem dX7_film_67 : decode cX7_film 67 = .ok (.idiv, 1) := by decide +kernel
theorem dX7_film_68 : decode cX7_film 68 = .ok (.iload_n 3, 1) := by decide +kernel
theorem dX7_film_69 : decode cX7_film 69 = .ok (.bipush 10, 2) := by decide +kernel
theorem dX7_film_71 : decode cX7_film 71 = .ok (.irem, 1) := by decide +kernel
theorem dX7_film_72 : decode cX7_film 72 = .ok (.invokevirtual 362, 3) := by decide +kernel
theorem dX7_film_75 : decode cX7_film 75 = .ok (.aload_n 0, 1) := by decide +kernel
theorem dX7_film_76 : decode cX7_film 76 = .ok (.getfield 63, 3) := by decide +kernel
theorem dX7_film_79 : decode cX7_film 79 = .ok (.bipush 40, 2) := by decide +kernel
theorem dX7_film_81 : decode cX7_film 81 = .ok (.iload_n 1, 1) := by decide +kernel
theorem dX7_film_82 : decode cX7_film 82 = .ok (.imul, 1) := by decide +kernel
theorem dX7_film_83 : decode cX7_film 83 = .ok (.iload 5, 2) := by decide +kernel
theorem dX7_film_85 : decode cX7_film 85 = .ok (.iadd, 1) := by decide +kernel
theorem dX7_film_86 : decode cX7_film 86 = .ok (.aload_n 0, 1) := by decide +kernel
theorem dX7_film_87 : decode cX7_film 87 = .ok (.getfield 32, 3) := by decide +kernel
theorem dX7_film_90 : decode cX7_film 90 = .ok (.iload_n 2, 1) := by decide +kernel
theorem dX7_film_91 : decode cX7_film 91 = .ok (.iload_n 3, 1) := by decide +kernel
theorem dX7_film_92 : decode cX7_film 92 = .ok (.bipush 10, 2) := by decide +kernel
theorem dX7_film_94 : decode cX7_film 94 = .ok (.idiv, 1) := by decide +kernel
theorem dX7_film_95 : decode cX7_film 95 = .ok (.invokestatic 114, 3) := by decide +kernel
theorem dX7_film_98 : decode cX7_film 98 = .ok (.iaload, 1) := by decide +kernel
theorem dX7_film_99 : decode cX7_film 99 = .ok (.iastore, 1) := by decide +kernel
theorem dX7_film_100 : decode cX7_film 100 = .ok (.iinc 5 1, 3) := by decide +kernel
theorem dX7_film_103 : decode cX7_film 103 = .ok (.goto (-48), 3) := by decide +kernel
theorem dX7_film_106 : decode cX7_film 106 = .ok (.aload_n 0, 1) := by decide +kernel
theorem dX7_film_107 : decode cX7_film 107 = .ok (.iload_n 2, 1) := by decide +kernel
theorem dX7_film_108 : decode cX7_film 108 = .ok (.invokevirtual 381, 3) := by decide +kernel
theorem dX7_film_111 : decode cX7_film 111 = .ok (.iload 4, 2) := by decide +kernel
theorem dX7_film_113 : decode cX7_film 113 = .ok (.ireturn, 1) := by decide +kernel
theorem dX7_passes_0 : decode cX7_passes 0 = .ok (.iload_n 1, 1) := by decide +kernel
theorem dX7_passes_1 : decode cX7_passes 1 = .ok (.istore_n 3, 1) := by decide +kernel
theorem dX7_passes_2 : decode cX7_passes 2 = .ok (.iconst 0, 1) := by decide +kernel
theorem dX7_passes_3 : decode cX7_passes 3 = .ok (.istore 4, 2) := by decide +kernel
theorem dX7_passes_5 : decode cX7_passes 5 = .ok (.iload 4, 2) := by decide +kernel
theorem dX7_passes_7 : decode cX7_passes 7 = .ok (.iconst 5, 1) := by decide +kernel
theorem dX7_passes_8 : decode cX7_passes 8 = .ok (.if_icmp .ge 33, 3) := by decide +kernel
theorem dX7_passes_11 : decode cX7_passes 11 = .ok (.iload_n 3, 1) := by decide +kernel
theorem dX7_passes_12 : decode cX7_passes 12 = .ok (.ldc_w 418, 3) := by decide +kernel
theorem dX7_passes_15 : decode cX7_passes 15 = .ok (.imul, 1) := by decide +kernel
theorem dX7_passes_16 : decode cX7_passes 16 = .ok (.sipush 12345, 3) := by decide +kernel
theorem dX7_passes_19 : decode cX7_passes 19 = .ok (.iadd, 1) := by decide +kernel
theorem dX7_passes_20 : decode cX7_passes 20 = .ok (.istore_n 3, 1) := by decide +kernel
theorem dX7_passes_21 : decode cX7_passes 21 = .ok (.aload_n 0, 1) := by decide +kernel
theorem dX7_passes_22 : decode cX7_passes 22 = .ok (.getfield 38, 3) := by decide +kernel
theorem dX7_passes_25 : decode cX7_passes 25 = .ok (.iload 4, 2) := by decide +kernel
theorem dX7_passes_27 : decode cX7_passes 27 = .ok (.iload_n 3, 1) := by decide +kernel
theorem dX7_passes_28 : decode cX7_passes 28 = .ok (.bipush 9, 2) := by decide +kernel
theorem dX7_passes_30 : decode cX7_passes 30 = .ok (.iushr, 1) := by decide +kernel
theorem dX7_passes_31 : decode cX7_passes 31 = .ok (.bipush 8, 2) := by decide +kernel
theorem dX7_passes_33 : decode cX7_passes 33 = .ok (.irem, 1) := by decide +kernel
theorem dX7_passes_34 : decode cX7_passes 34 = .ok (.iastore, 1) := by decide +kernel
theorem dX7_passes_35 : decode cX7_passes 35 = .ok (.iinc 4 1, 3) := by decide +kernel
theorem dX7_passes_38 : decode cX7_passes 38 = .ok (.goto (-33), 3) := by decide +kernel
theorem dX7_passes_41 : decode cX7_passes 41 = .ok (.iconst 0, 1) := by decide +kernel
theorem dX7_passes_42 : decode cX7_passes 42 = .ok (.istore 4, 2) := by decide +kernel
theorem dX7_passes_44 : decode cX7_passes 44 = .ok (.iconst 0, 1) := by decide +kernel
theorem dX7_passes_45 : decode cX7_passes 45 = .ok (.istore 5, 2) := by decide +kernel
theorem dX7_passes_47 : decode cX7_passes 47 = .ok (.iload 5, 2) := by decide +kernel
theorem dX7_passes_49 : decode cX7_passes 49 = .ok (.iconst 5, 1) := by decide +kernel
theorem dX7_passes_50 : decode cX7_passes 50 = .ok (.if_icmp .ge 55, 3) := by decide +kernel
theorem dX7_passes_53 : decode cX7_passes 53 = .ok (.iload_n 3, 1) := by decide +kernel
theorem dX7_passes_54 : decode cX7_passes 54 = .ok (.ldc_w 418, 3) := by decide +kernel
theorem dX7_passes_57 : decode cX7_passes 57 = .ok (.imul, 1) := by decide +kernel
theorem dX7_passes_58 : decode cX7_passes 58 = .ok (.sipush 12345, 3) := by decide +kernel
theorem dX7_passes_61 : decode cX7_passes 61 = .ok (.iadd, 1) := by decide +kernel
theorem dX7_passes_62 : decode cX7_passes 62 = .ok (.istore_n 3, 1) := by decide +kernel
theorem dX7_passes_63 : decode cX7_passes 63 = .ok (.iload 4, 2) := by decide +kernel
theorem dX7_passes_65 : decode cX7_passes 65 = .ok (.iload_n 3, 1) := by decide +kernel
theorem dX7_passes_66 : decode cX7_passes 66 = .ok (.bipush 9, 2) := by decide +kernel
theorem dX7_passes_68 : decode cX7_passes 68 = .ok (.iushr, 1) := by decide +kernel
theorem dX7_passes_69 : decode cX7_passes 69 = .ok (.bipush 100, 2) := by decide +kernel
theorem dX7_passes_71 : decode cX7_passes 71 = .ok (.irem, 1) := by decide +kernel
theorem dX7_passes_72 : decode cX7_passes 72 = .ok (.aload_n 0, 1) := by decide +kernel
theorem dX7_passes_73 : decode cX7_passes 73 = .ok (.getfield 32, 3) := by decide +kernel
theorem dX7_passes_76 : decode cX7_passes 76 = .ok (.iload_n 2, 1) := by decide +kernel
theorem dX7_passes_77 : decode cX7_passes 77 = .ok (.aload_n 0, 1) := by decide +kernel
theorem dX7_passes_78 : decode cX7_passes 78 = .ok (.getfield 38, 3) := by decide +kernel
theorem dX7_passes_81 : decode cX7_passes 81 = .ok (.iload 5, 2) := by decide +kernel
theorem dX7_passes_83 : decode cX7_passes 83 = .ok (.iaload, 1) := by decide +kernel
theorem dX7_passes_84 : decode cX7_passes 84 = .ok (.invokestatic 114, 3) := by decide +kernel
theorem dX7_passes_87 : decode cX7_passes 87 = .ok (.iaload, 1) := by decide +kernel
theorem dX7_passes_88 : decode cX7_passes 88 = .ok (.if_icmp .ge 7, 3) := by decide +kernel
theorem dX7_passes_91 : decode cX7_passes 91 = .ok (.iconst 1, 1) := by decide +kernel
theorem dX7_passes_92 : decode cX7_passes 92 = .ok (.goto 4, 3) := by decide +kernel
theorem dX7_passes_95 : decode cX7_passes 95 = .ok (.iconst 0, 1) := by decide +kernel
theorem dX7_passes_96 : decode cX7_passes 96 = .ok (.iadd, 1) := by decide +kernel
theorem dX7_passes_97 : decode cX7_passes 97 = .ok (.istore 4, 2) := by decide +kernel
theorem dX7_passes_99 : decode cX7_passes 99 = .ok (.iinc 5 1, 3) := by decide +kernel
theorem dX7_passes_102 : decode cX7_passes 102 = .ok (.goto (-55), 3) := by decide +kernel
theorem dX7_passes_105 : decode cX7_passes 105 = .ok (.iload 4, 2) := by decide +kernel
theorem dX7_passes_107 : decode cX7_passes 107 = .ok (.ireturn, 1) := by decide +kernel
theorem dX7_drawn_0 : decode cX7_drawn 0 = .ok (.aload_n 0, 1) := by decide +kernel
theorem dX7_drawn_1 : decode cX7_drawn 1 = .ok (.iload_n 2, 1) := by decide +kernel
theorem dX7_drawn_2 : decode cX7_drawn 2 = .ok (.invokevirtual 86, 3) := by decide +kernel
theorem dX7_drawn_5 : decode cX7_drawn 5 = .ok (.ifCond .eq 12, 3) := by decide +kernel
theorem dX7_drawn_8 : decode cX7_drawn 8 = .ok (.aload_n 0, 1) := by decide +kernel
theorem dX7_drawn_9 : decode cX7_drawn 9 = .ok (.iload_n 1, 1) := by decide +kernel
theorem dX7_drawn_10 : decode cX7_drawn 10 = .ok (.iload_n 2, 1) := by decide +kernel
theorem dX7_drawn_11 : decode cX7_drawn 11 = .ok (.invokevirtual 419, 3) := by decide +kernel
theorem dX7_drawn_14 : decode cX7_drawn 14 = .ok (.goto 5, 3) := by decide +kernel
theorem dX7_drawn_17 : decode cX7_drawn 17 = .ok (.bipush (-2), 2) := by decide +kernel
theorem dX7_drawn_19 : decode cX7_drawn 19 = .ok (.ireturn, 1) := by decide +kernel
theorem dX7_chance_0 : decode cX7_chance 0 = .ok (.aload_n 0, 1) := by decide +kernel
theorem dX7_chance_1 : decode cX7_chance 1 = .ok (.iload_n 3, 1) := by decide +kernel
theorem dX7_chance_2 : decode cX7_chance 2 = .ok (.invokevirtual 86, 3) := by decide +kernel
theorem dX7_chance_5 : decode cX7_chance 5 = .ok (.ifCond .eq 26, 3) := by decide +kernel
theorem dX7_chance_8 : decode cX7_chance 8 = .ok (.iload_n 2, 1) := by decide +kernel
theorem dX7_chance_9 : decode cX7_chance 9 = .ok (.i2l, 1) := by decide +kernel
theorem dX7_chance_10 : decode cX7_chance 10 = .ok (.lconst 1, 1) := by decide +kernel
theorem dX7_chance_11 : decode cX7_chance 11 = .ok (.ldc2_w 124, 3) := by decide +kernel
theorem dX7_chance_14 : decode cX7_chance 14 = .ok (.invokestatic 76, 3) := by decide +kernel
theorem dX7_chance_17 : decode cX7_chance 17 = .ok (.ifCond .eq 14, 3) := by decide +kernel
theorem dX7_chance_20 : decode cX7_chance 20 = .ok (.iload 4, 2) := by decide +kernel
theorem dX7_chance_22 : decode cX7_chance 22 = .ok (.i2l, 1) := by decide +kernel
theorem dX7_chance_23 : decode cX7_chance 23 = .ok (.lconst 0, 1) := by decide +kernel
theorem dX7_chance_24 : decode cX7_chance 24 = .ok (.lconst 1, 1) := by decide +kernel
theorem dX7_chance_25 : decode cX7_chance 25 = .ok (.invokestatic 76, 3) := by decide +kernel
theorem dX7_chance_28 : decode cX7_chance 28 = .ok (.ifCond .ne 7, 3) := by decide +kernel
theorem dX7_chance_31 : decode cX7_chance 31 = .ok (.ldc2_w 391, 3) := by decide +kernel
theorem dX7_chance_34 : decode cX7_chance 34 = .ok (.lreturn, 1) := by decide +kernel
theorem dX7_chance_35 : decode cX7_chance 35 = .ok (.lconst 0, 1) := by decide +kernel
theorem dX7_chance_36 : decode cX7_chance 36 = .ok (.lstore 5, 2) := by decide +kernel
theorem dX7_chance_38 : decode cX7_chance 38 = .ok (.iconst 0, 1) := by decide +kernel
theorem dX7_chance_39 : decode cX7_chance 39 = .ok (.istore 7, 2) := by decide +kernel
theorem dX7_chance_41 : decode cX7_chance 41 = .ok (.iload 7, 2) := by decide +kernel
theorem dX7_chance_43 : decode cX7_chance 43 = .ok (.iload_n 2, 1) := by decide +kernel
theorem dX7_chance_44 : decode cX7_chance 44 = .ok (.if_icmp .ge 32, 3) := by decide +kernel
theorem dX7_chance_47 : decode cX7_chance 47 = .ok (.lload 5, 2) := by decide +kernel
theorem dX7_chance_49 : decode cX7_chance 49 = .ok (.aload_n 0, 1) := by decide +kernel
theorem dX7_chance_50 : decode cX7_chance 50 = .ok (.iload_n 1, 1) := by decide +kernel
theorem dX7_chance_51 : decode cX7_chance 51 = .ok (.iload 7, 2) := by decide +kernel
theorem dX7_chance_53 : decode cX7_chance 53 = .ok (.iadd, 1) := by decide +kernel
theorem dX7_chance_54 : decode cX7_chance 54 = .ok (.iload_n 3, 1) := by decide +kernel
theorem dX7_chance_55 : decode cX7_chance 55 = .ok (.invokevirtual 419, 3) := by decide +kernel
theorem dX7_chance_58 : decode cX7_chance 58 = .ok (.iconst 5, 1) := by decide +kernel
theorem dX7_chance_59 : decode cX7_chance 59 = .ok (.if_icmp .ne 7, 3) := by decide +kernel
theorem dX7_chance_62 : decode cX7_chance 62 = .ok (.lconst 1, 1) := by decide +kernel
theorem dX7_chance_63 : decode cX7_chance 63 = .ok (.goto 4, 3) := by decide +kernel
theorem dX7_chance_66 : decode cX7_chance 66 = .ok (.lconst 0, 1) := by decide +kernel
theorem dX7_chance_67 : decode cX7_chance 67 = .ok (.ladd, 1) := by decide +kernel
theorem dX7_chance_68 : decode cX7_chance 68 = .ok (.lstore 5, 2) := by decide +kernel
theorem dX7_chance_70 : decode cX7_chance 70 = .ok (.iinc 7 1, 3) := by decide +kernel
theorem dX7_chance_73 : decode cX7_chance 73 = .ok (.goto (-32), 3) := by decide +kernel
theorem dX7_chance_76 : decode cX7_chance 76 = .ok (.lload 5, 2) := by decide +kernel
theorem dX7_chance_78 : decode cX7_chance 78 = .ok (.iload_n 2, 1) := by decide +kernel
theorem dX7_chance_79 : decode cX7_chance 79 = .ok (.i2l, 1) := by decide +kernel
theorem dX7_chance_80 : decode cX7_chance 80 = .ok (.iload 4, 2) := by decide +kernel
theorem dX7_chance_82 : decode cX7_chance 82 = .ok (.invokestatic 395, 3) := by decide +kernel
theorem dX7_chance_85 : decode cX7_chance 85 = .ok (.lreturn, 1) := by decide +kernel
section SIM
variable {p : Program} {l : Launch} {e : Env} {R : Room} {s : State} {m : MethodId} {args : Array Value} {below : List Frame} {meth : Method} {c : Code} {D : va_G} {cA : Nat → ClassId} {ad : Nat → Nat} {bs n0 z0 d : Nat} {H0 : Heap} {rv : Option Value} {hf : aM} {E : Nat → List Value → aM → Option Value → aM → Prop} {X : aXt × Value}

set_option maxHeartbeats 4000000 in
set_option maxRecDepth 20000 in
theorem sm_X7_hours_0 (hC : aC p s m args c cX7_hours 13 RX7 D cA ad bs n0 H0 X) (hF : ∀ ml, ml ≤ 41 → aFit R d ml) (hRm : 16 ≤ R.frames ∧ 1000 ≤ R.locals) (hE : aCalls l D cA ad bs X d E) (hr : meth.sig.returnType = (some .int)) (hlk : meth.locks = false) : aSims (fun f i => aSim p l e R s m args below meth c (aEnd below s args D cA ad bs n0 z0 rv hf) 13 D cA ad bs n0 z0 H0 (apc pc_X7_hours) rv hf E f i) (cd_X7_hours_0) 0 := by
  unfold cd_X7_hours_0
  refine aSims_c (i := 0) (s_aload_n hC dX7_hours_0 rfl rfl) ?_
  refine aSims_c (i := 1) (s_iload_n hC dX7_hours_1 rfl rfl) ?_
  refine aSims_c (i := 2) (s_callV (n := 1) hC dX7_hours_2 rfl rfl (hE 115 _ _ _ _ rfl) (hF _ (by decide)) w_988 w_985 w_987 w_30 w_109 rfl (by decide +kernel)) ?_
  refine aSims_c (i := 3) (s_if_eq hC dX7_hours_5 rfl rfl rfl) ?_
  refine aSims_c (i := 4) (s_iload_n hC dX7_hours_8 rfl rfl) ?_
  refine aSims_c (i := 5) (s_i2l hC dX7_hours_9 rfl rfl) ?_
  refine aSims_c (i := 6) (s_lconst hC dX7_hours_10 rfl rfl rfl) ?_
  refine aSims_c (i := 7) (s_ldc2 hC dX7_hours_11 w_1291 rfl rfl) ?_
  refine aSims_c (i := 8) (s_callS hC dX7_hours_14 rfl rfl (hE 111 _ _ _ _ rfl) (hF _ (by decide)) w_974 w_972 w_973 w_109 (by decide +kernel)) ?_
  refine aSims_c (i := 9) (s_if_eq hC dX7_hours_17 rfl rfl rfl) ?_
  refine aSims_c (i := 10) (s_iload_n hC dX7_hours_20 rfl rfl) ?_
  refine aSims_c (i := 11) (s_i2l hC dX7_hours_21 rfl rfl) ?_
  refine aSims_c (i := 12) (s_lconst hC dX7_hours_22 rfl rfl rfl) ?_
  refine aSims_c (i := 13) (s_ldc2 hC dX7_hours_23 w_1254 rfl rfl) ?_
  refine aSims_c (i := 14) (s_callS hC dX7_hours_26 rfl rfl (hE 111 _ _ _ _ rfl) (hF _ (by decide)) w_974 w_972 w_973 w_109 (by decide +kernel)) ?_
  refine aSims_c (i := 15) (s_if_eq hC dX7_hours_29 rfl rfl rfl) ?_
  refine aSims_c (i := 16) (s_iload hC dX7_hours_32 rfl rfl) ?_
  refine aSims_c (i := 17) (s_i2l hC dX7_hours_34 rfl rfl) ?_
  refine aSims_c (i := 18) (s_lconst hC dX7_hours_35 rfl rfl rfl) ?_
  refine aSims_c (i := 19) (s_ldc2 hC dX7_hours_36 w_1254 rfl rfl) ?_
  refine aSims_c (i := 20) (s_callS hC dX7_hours_39 rfl rfl (hE 111 _ _ _ _ rfl) (hF _ (by decide)) w_974 w_972 w_973 w_109 (by decide +kernel)) ?_
  refine aSims_c (i := 21) (s_if_ne hC dX7_hours_42 rfl rfl rfl) ?_
  refine aSims_c (i := 22) (s_bipush hC dX7_hours_45 rfl rfl rfl) ?_
  refine aSims_c (i := 23) (s_iret hC dX7_hours_47 rfl hr hlk nar_qI) ?_
  refine aSims_c (i := 24) (s_iload_n hC dX7_hours_48 rfl rfl) ?_
  refine aSims_c (i := 25) (s_if_ne hC dX7_hours_49 rfl rfl rfl) ?_
  refine aSims_c (i := 26) (s_iconst hC dX7_hours_52 rfl rfl rfl) ?_
  refine aSims_c (i := 27) (s_goto hC dX7_hours_53 rfl rfl) ?_
  refine aSims_c (i := 28) (s_iload_n hC dX7_hours_56 rfl rfl) ?_
  refine aSims_c (i := 29) (s_iconst hC dX7_hours_57 rfl rfl rfl) ?_
  refine aSims_c (i := 30) (s_icmp_ne hC dX7_hours_58 rfl rfl rfl) ?_
  refine aSims_c (i := 31) (s_bipush hC dX7_hours_61 rfl rfl rfl) ?_
  refine aSims_c (i := 32) (s_goto hC dX7_hours_63 rfl rfl) ?_
  refine aSims_c (i := 33) (s_iload_n hC dX7_hours_66 rfl rfl) ?_
  refine aSims_c (i := 34) (s_iconst hC dX7_hours_67 rfl rfl rfl) ?_
  refine aSims_c (i := 35) (s_icmp_ne hC dX7_hours_68 rfl rfl rfl) ?_
  refine aSims_c (i := 36) (s_bipush hC dX7_hours_71 rfl rfl rfl) ?_
  refine aSims_c (i := 37) (s_goto hC dX7_hours_73 rfl rfl) ?_
  refine aSims_c (i := 38) (s_sipush hC dX7_hours_76 rfl rfl rfl) ?_
  refine aSims_c (i := 39) (s_istore hC dX7_hours_79 rfl rfl) ?_
  refine aSims_c (i := 40) (s_iconst hC dX7_hours_81 rfl rfl rfl) ?_
  refine aSims_c (i := 41) (s_istore hC dX7_hours_82 rfl rfl) ?_
  refine aSims_c (i := 42) (s_iconst hC dX7_hours_84 rfl rfl rfl) ?_
  refine aSims_c (i := 43) (s_istore hC dX7_hours_85 rfl rfl) ?_
  refine aSims_c (i := 44) (s_iconst hC dX7_hours_87 rfl rfl rfl) ?_
  refine aSims_c (i := 45) (s_istore hC dX7_hours_88 rfl rfl) ?_
  refine aSims_c (i := 46) (s_aload_n hC dX7_hours_90 rfl rfl) ?_
  refine aSims_c (i := 47) (s_iload_n hC dX7_hours_91 rfl rfl) ?_
  refine aSims_c (i := 48) (s_callV (n := 1) hC dX7_hours_92 rfl rfl (hE 186 _ _ _ _ rfl) (hF _ (by decide)) w_1278 w_1275 w_1277 w_88 w_109 rfl (by decide +kernel)) ?_
  refine aSims_c (i := 49) (s_iconst hC dX7_hours_95 rfl rfl rfl) ?_
  refine aSims_c (i := 50) (s_istore hC dX7_hours_96 rfl rfl) ?_
  refine aSims_c (i := 51) (s_iload hC dX7_hours_98 rfl rfl) ?_
  refine aSims_c (i := 52) (s_iload hC dX7_hours_100 rfl rfl) ?_
  refine aSims_c (i := 53) (s_icmp_ge hC dX7_hours_102 rfl rfl rfl) ?_
  refine aSims_c (i := 54) (s_iconst hC dX7_hours_105 rfl rfl rfl) ?_
  refine aSims_c (i := 55) (s_istore hC dX7_hours_106 rfl rfl) ?_
  refine aSims_c (i := 56) (s_iload hC dX7_hours_108 rfl rfl) ?_
  refine aSims_c (i := 57) (s_bipush hC dX7_hours_110 rfl rfl rfl) ?_
  refine aSims_c (i := 58) (s_idiv hC dX7_hours_112 rfl rfl) ?_
  refine aSims_c (i := 59) (s_istore hC dX7_hours_113 rfl rfl) ?_
  refine aSims_c (i := 60) (s_iload hC dX7_hours_115 rfl rfl) ?_
  refine aSims_c (i := 61) (s_if_le hC dX7_hours_117 rfl rfl rfl) ?_
  refine aSims_c (i := 62) (s_iload hC dX7_hours_120 rfl rfl) ?_
  refine aSims_c (i := 63) (s_iload hC dX7_hours_122 rfl rfl) ?_
  refine aSims_c (i := 64) (s_idiv hC dX7_hours_124 rfl rfl) ?_
  refine aSims_c (i := 65) (s_bipush hC dX7_hours_125 rfl rfl rfl) ?_
  refine aSims_c (i := 66) (s_irem hC dX7_hours_127 rfl rfl) ?_
  refine aSims_c (i := 67) (s_istore hC dX7_hours_128 rfl rfl) ?_
  refine aSims_c (i := 68) (s_aload_n hC dX7_hours_130 rfl rfl) ?_
  refine aSims_c (i := 69) (s_iload_n hC dX7_hours_131 rfl rfl) ?_
  refine aSims_c (i := 70) (s_iload hC dX7_hours_132 rfl rfl) ?_
  refine aSims_c (i := 71) (s_iload_n hC dX7_hours_134 rfl rfl) ?_
  refine aSims_c (i := 72) (s_callV (n := 3) hC dX7_hours_135 rfl rfl (hE 181 _ _ _ _ rfl) (hF _ (by decide)) w_1258 w_1255 w_1257 w_85 w_109 rfl (by decide +kernel)) ?_
  refine aSims_c (i := 73) (s_bipush hC dX7_hours_138 rfl rfl rfl) ?_
  refine aSims_c (i := 74) (s_iload hC dX7_hours_140 rfl rfl) ?_
  refine aSims_c (i := 75) (s_imul hC dX7_hours_142 rfl rfl) ?_
  refine aSims_c (i := 76) (s_iload hC dX7_hours_143 rfl rfl) ?_
  refine aSims_c (i := 77) (s_iadd hC dX7_hours_145 rfl rfl) ?_
  refine aSims_c (i := 78) (s_iconst hC dX7_hours_146 rfl rfl rfl) ?_
  refine aSims_c (i := 79) (s_iadd hC dX7_hours_147 rfl rfl) ?_
  refine aSims_c (i := 80) (s_istore hC dX7_hours_148 rfl rfl) ?_
  refine aSims_c (i := 81) (s_iload hC dX7_hours_150 rfl rfl) ?_
  refine aSims_c (i := 82) (s_bipush hC dX7_hours_152 rfl rfl rfl) ?_
  refine aSims_c (i := 83) (s_idiv hC dX7_hours_154 rfl rfl) ?_
  refine aSims_c (i := 84) (s_istore hC dX7_hours_155 rfl rfl) ?_
  refine aSims_c (i := 85) (s_goto hC dX7_hours_157 rfl rfl) ?_
  refine aSims_c (i := 86) (s_aload_n hC dX7_hours_160 rfl rfl) ?_
  refine aSims_c (i := 87) (s_iload_n hC dX7_hours_161 rfl rfl) ?_
  refine aSims_c (i := 88) (s_callV (n := 1) hC dX7_hours_162 rfl rfl (hE 179 _ _ _ _ rfl) (hF _ (by decide)) w_1213 w_1210 w_1212 w_81 w_109 rfl (by decide +kernel)) ?_
  refine aSims_c (i := 89) (s_istore hC dX7_hours_165 rfl rfl) ?_
  refine aSims_c (i := 90) (s_aload_n hC dX7_hours_167 rfl rfl) ?_
  refine aSims_c (i := 91) (s_get hC dX7_hours_168 rfl rfl w_853 rfl rfl inB7 (by decide)) ?_
  refine aSims_c (i := 92) (s_iload_n hC dX7_hours_171 rfl rfl) ?_
  refine aSims_c (i := 93) (s_bipush hC dX7_hours_172 rfl rfl rfl) ?_
  refine aSims_c (i := 94) (s_callS hC dX7_hours_174 rfl rfl (hE 117 _ _ _ _ rfl) (hF _ (by decide)) w_1000 w_998 w_999 w_109 (by decide +kernel)) ?_
  refine aSims_c (i := 95) (s_iaload hC hX0 dX7_hours_177 rfl rfl) ?_
  refine aSims_c (i := 96) (s_aload_n hC dX7_hours_178 rfl rfl) ?_
  refine aSims_c (i := 97) (s_get hC dX7_hours_179 rfl rfl w_870 rfl rfl inB7 (by decide)) ?_
  refine aSims_c (i := 98) (s_bipush hC dX7_hours_182 rfl rfl rfl) ?_
  refine aSims_c (i := 99) (s_iaload hC hX0 dX7_hours_184 rfl rfl) ?_
  exact aSims_n
set_option maxHeartbeats 4000000 in
set_option maxRecDepth 20000 in
theorem sm_X7_hours_1 (hC : aC p s m args c cX7_hours 13 RX7 D cA ad bs n0 H0 X) (hF : ∀ ml, ml ≤ 41 → aFit R d ml) (hRm : 16 ≤ R.frames ∧ 1000 ≤ R.locals) (hE : aCalls l D cA ad bs X d E) (hr : meth.sig.returnType = (some .int)) (hlk : meth.locks = false) : aSims (fun f i => aSim p l e R s m args below meth c (aEnd below s args D cA ad bs n0 z0 rv hf) 13 D cA ad bs n0 z0 H0 (apc pc_X7_hours) rv hf E f i) (cd_X7_hours_1) 100 := by
  unfold cd_X7_hours_1
  refine aSims_c (i := 100) (s_isub hC dX7_hours_185 rfl rfl) ?_
  refine aSims_c (i := 101) (s_istore hC dX7_hours_186 rfl rfl) ?_
  refine aSims_c (i := 102) (s_aload_n hC dX7_hours_188 rfl rfl) ?_
  refine aSims_c (i := 103) (s_iload_n hC dX7_hours_189 rfl rfl) ?_
  refine aSims_c (i := 104) (s_callV (n := 1) hC dX7_hours_190 rfl rfl (hE 187 _ _ _ _ rfl) (hF _ (by decide)) w_1286 w_1283 w_1285 w_90 w_109 rfl (by decide +kernel)) ?_
  refine aSims_c (i := 105) (s_iload hC dX7_hours_193 rfl rfl) ?_
  refine aSims_c (i := 106) (s_iload hC dX7_hours_195 rfl rfl) ?_
  refine aSims_c (i := 107) (s_icmp_le hC dX7_hours_197 rfl rfl rfl) ?_
  refine aSims_c (i := 108) (s_iload hC dX7_hours_200 rfl rfl) ?_
  refine aSims_c (i := 109) (s_istore hC dX7_hours_202 rfl rfl) ?_
  refine aSims_c (i := 110) (s_iload hC dX7_hours_204 rfl rfl) ?_
  refine aSims_c (i := 111) (s_istore hC dX7_hours_206 rfl rfl) ?_
  refine aSims_c (i := 112) (s_iload hC dX7_hours_208 rfl rfl) ?_
  refine aSims_c (i := 113) (s_istore hC dX7_hours_210 rfl rfl) ?_
  refine aSims_c (i := 114) (s_iinc hC dX7_hours_212 rfl rfl) ?_
  refine aSims_c (i := 115) (s_goto hC dX7_hours_215 rfl rfl) ?_
  refine aSims_c (i := 116) (s_iload hC dX7_hours_218 rfl rfl) ?_
  refine aSims_c (i := 117) (s_if_ne hC dX7_hours_220 rfl rfl rfl) ?_
  refine aSims_c (i := 118) (s_iload hC dX7_hours_223 rfl rfl) ?_
  refine aSims_c (i := 119) (s_goto hC dX7_hours_225 rfl rfl) ?_
  refine aSims_c (i := 120) (s_iload hC dX7_hours_228 rfl rfl) ?_
  refine aSims_c (i := 121) (s_iconst hC dX7_hours_230 rfl rfl rfl) ?_
  refine aSims_c (i := 122) (s_icmp_ne hC dX7_hours_231 rfl rfl rfl) ?_
  refine aSims_c (i := 123) (s_iload hC dX7_hours_234 rfl rfl) ?_
  refine aSims_c (i := 124) (s_goto hC dX7_hours_236 rfl rfl) ?_
  refine aSims_c (i := 125) (s_iload hC dX7_hours_239 rfl rfl) ?_
  refine aSims_c (i := 126) (s_iret hC dX7_hours_241 rfl hr hlk nar_qI) ?_
  exact aSims_n
theorem sm_X7_hours (hC : aC p s m args c cX7_hours 13 RX7 D cA ad bs n0 H0 X) (hF : ∀ ml, ml ≤ 41 → aFit R d ml) (hRm : 16 ≤ R.frames ∧ 1000 ≤ R.locals) (hE : aCalls l D cA ad bs X d E) (hr : meth.sig.returnType = (some .int)) (hlk : meth.locks = false) : aSims (fun f i => aSim p l e R s m args below meth c (aEnd below s args D cA ad bs n0 z0 rv hf) 13 D cA ad bs n0 z0 H0 (apc pc_X7_hours) rv hf E f i) cd_X7_hours 0 := aSims_a (sm_X7_hours_0 hC hF hRm hE hr hlk) (sm_X7_hours_1 hC hF hRm hE hr hlk)
set_option maxHeartbeats 4000000 in
set_option maxRecDepth 20000 in
theorem sm_X7_weakest (hC : aC p s m args c cX7_weakest 4 RX7 D cA ad bs n0 H0 X) (hF : ∀ ml, ml ≤ 41 → aFit R d ml) (hRm : 16 ≤ R.frames ∧ 1000 ≤ R.locals) (hE : aCalls l D cA ad bs X d E) (hr : meth.sig.returnType = (some .int)) (hlk : meth.locks = false) : aSims (fun f i => aSim p l e R s m args below meth c (aEnd below s args D cA ad bs n0 z0 rv hf) 4 D cA ad bs n0 z0 H0 (apc pc_X7_weakest) rv hf E f i) (cd_X7_weakest) 0 := by
  unfold cd_X7_weakest
  refine aSims_c (i := 0) (s_iconst hC dX7_weakest_0 rfl rfl rfl) ?_
  refine aSims_c (i := 1) (s_istore_n hC dX7_weakest_1 rfl rfl) ?_
  refine aSims_c (i := 2) (s_iconst hC dX7_weakest_2 rfl rfl rfl) ?_
  refine aSims_c (i := 3) (s_istore_n hC dX7_weakest_3 rfl rfl) ?_
  refine aSims_c (i := 4) (s_iload_n hC dX7_weakest_4 rfl rfl) ?_
  refine aSims_c (i := 5) (s_bipush hC dX7_weakest_5 rfl rfl rfl) ?_
  refine aSims_c (i := 6) (s_icmp_ge hC dX7_weakest_7 rfl rfl rfl) ?_
  refine aSims_c (i := 7) (s_aload_n hC dX7_weakest_10 rfl rfl) ?_
  refine aSims_c (i := 8) (s_get hC dX7_weakest_11 rfl rfl w_853 rfl rfl inB7 (by decide)) ?_
  refine aSims_c (i := 9) (s_iload_n hC dX7_weakest_14 rfl rfl) ?_
  refine aSims_c (i := 10) (s_iload_n hC dX7_weakest_15 rfl rfl) ?_
  refine aSims_c (i := 11) (s_callS hC dX7_weakest_16 rfl rfl (hE 117 _ _ _ _ rfl) (hF _ (by decide)) w_1000 w_998 w_999 w_109 (by decide +kernel)) ?_
  refine aSims_c (i := 12) (s_iaload hC hX0 dX7_weakest_19 rfl rfl) ?_
  refine aSims_c (i := 13) (s_aload_n hC dX7_weakest_20 rfl rfl) ?_
  refine aSims_c (i := 14) (s_get hC dX7_weakest_21 rfl rfl w_853 rfl rfl inB7 (by decide)) ?_
  refine aSims_c (i := 15) (s_iload_n hC dX7_weakest_24 rfl rfl) ?_
  refine aSims_c (i := 16) (s_iload_n hC dX7_weakest_25 rfl rfl) ?_
  refine aSims_c (i := 17) (s_callS hC dX7_weakest_26 rfl rfl (hE 117 _ _ _ _ rfl) (hF _ (by decide)) w_1000 w_998 w_999 w_109 (by decide +kernel)) ?_
  refine aSims_c (i := 18) (s_iaload hC hX0 dX7_weakest_29 rfl rfl) ?_
  refine aSims_c (i := 19) (s_icmp_ge hC dX7_weakest_30 rfl rfl rfl) ?_
  refine aSims_c (i := 20) (s_iload_n hC dX7_weakest_33 rfl rfl) ?_
  refine aSims_c (i := 21) (s_goto hC dX7_weakest_34 rfl rfl) ?_
  refine aSims_c (i := 22) (s_iload_n hC dX7_weakest_37 rfl rfl) ?_
  refine aSims_c (i := 23) (s_istore_n hC dX7_weakest_38 rfl rfl) ?_
  refine aSims_c (i := 24) (s_iinc hC dX7_weakest_39 rfl rfl) ?_
  refine aSims_c (i := 25) (s_goto hC dX7_weakest_42 rfl rfl) ?_
  refine aSims_c (i := 26) (s_iload_n hC dX7_weakest_45 rfl rfl) ?_
  refine aSims_c (i := 27) (s_iret hC dX7_weakest_46 rfl hr hlk nar_qI) ?_
  exact aSims_n
set_option maxHeartbeats 4000000 in
set_option maxRecDepth 20000 in
theorem sm_X7_takes (hC : aC p s m args c cX7_takes 7 RX7 D cA ad bs n0 H0 X) (hF : ∀ ml, ml ≤ 41 → aFit R d ml) (hRm : 16 ≤ R.frames ∧ 1000 ≤ R.locals) (hE : aCalls l D cA ad bs X d E) (hr : meth.sig.returnType = (some .int)) (hlk : meth.locks = false) : aSims (fun f i => aSim p l e R s m args below meth c (aEnd below s args D cA ad bs n0 z0 rv hf) 7 D cA ad bs n0 z0 H0 (apc pc_X7_takes) rv hf E f i) (cd_X7_takes) 0 := by
  unfold cd_X7_takes
  refine aSims_c (i := 0) (s_aload_n hC dX7_takes_0 rfl rfl) ?_
  refine aSims_c (i := 1) (s_iload_n hC dX7_takes_1 rfl rfl) ?_
  refine aSims_c (i := 2) (s_callV (n := 1) hC dX7_takes_2 rfl rfl (hE 115 _ _ _ _ rfl) (hF _ (by decide)) w_988 w_985 w_987 w_30 w_109 rfl (by decide +kernel)) ?_
  refine aSims_c (i := 3) (s_if_eq hC dX7_takes_5 rfl rfl rfl) ?_
  refine aSims_c (i := 4) (s_iload_n hC dX7_takes_8 rfl rfl) ?_
  refine aSims_c (i := 5) (s_i2l hC dX7_takes_9 rfl rfl) ?_
  refine aSims_c (i := 6) (s_lconst hC dX7_takes_10 rfl rfl rfl) ?_
  refine aSims_c (i := 7) (s_ldc2 hC dX7_takes_11 w_1254 rfl rfl) ?_
  refine aSims_c (i := 8) (s_callS hC dX7_takes_14 rfl rfl (hE 111 _ _ _ _ rfl) (hF _ (by decide)) w_974 w_972 w_973 w_109 (by decide +kernel)) ?_
  refine aSims_c (i := 9) (s_if_eq hC dX7_takes_17 rfl rfl rfl) ?_
  refine aSims_c (i := 10) (s_iload_n hC dX7_takes_20 rfl rfl) ?_
  refine aSims_c (i := 11) (s_i2l hC dX7_takes_21 rfl rfl) ?_
  refine aSims_c (i := 12) (s_lconst hC dX7_takes_22 rfl rfl rfl) ?_
  refine aSims_c (i := 13) (s_ldc2 hC dX7_takes_23 w_1223 rfl rfl) ?_
  refine aSims_c (i := 14) (s_callS hC dX7_takes_26 rfl rfl (hE 111 _ _ _ _ rfl) (hF _ (by decide)) w_974 w_972 w_973 w_109 (by decide +kernel)) ?_
  refine aSims_c (i := 15) (s_if_ne hC dX7_takes_29 rfl rfl rfl) ?_
  refine aSims_c (i := 16) (s_bipush hC dX7_takes_32 rfl rfl rfl) ?_
  refine aSims_c (i := 17) (s_iret hC dX7_takes_34 rfl hr hlk nar_qI) ?_
  refine aSims_c (i := 18) (s_aload_n hC dX7_takes_35 rfl rfl) ?_
  refine aSims_c (i := 19) (s_iload_n hC dX7_takes_36 rfl rfl) ?_
  refine aSims_c (i := 20) (s_callV (n := 1) hC dX7_takes_37 rfl rfl (hE 186 _ _ _ _ rfl) (hF _ (by decide)) w_1278 w_1275 w_1277 w_88 w_109 rfl (by decide +kernel)) ?_
  refine aSims_c (i := 21) (s_aload_n hC dX7_takes_40 rfl rfl) ?_
  refine aSims_c (i := 22) (s_iload_n hC dX7_takes_41 rfl rfl) ?_
  refine aSims_c (i := 23) (s_callV (n := 1) hC dX7_takes_42 rfl rfl (hE 179 _ _ _ _ rfl) (hF _ (by decide)) w_1213 w_1210 w_1212 w_81 w_109 rfl (by decide +kernel)) ?_
  refine aSims_c (i := 24) (s_bipush hC dX7_takes_45 rfl rfl rfl) ?_
  refine aSims_c (i := 25) (s_icmp_ne hC dX7_takes_47 rfl rfl rfl) ?_
  refine aSims_c (i := 26) (s_iconst hC dX7_takes_50 rfl rfl rfl) ?_
  refine aSims_c (i := 27) (s_goto hC dX7_takes_51 rfl rfl) ?_
  refine aSims_c (i := 28) (s_iconst hC dX7_takes_54 rfl rfl rfl) ?_
  refine aSims_c (i := 29) (s_istore hC dX7_takes_55 rfl rfl) ?_
  refine aSims_c (i := 30) (s_iconst hC dX7_takes_57 rfl rfl rfl) ?_
  refine aSims_c (i := 31) (s_istore hC dX7_takes_58 rfl rfl) ?_
  refine aSims_c (i := 32) (s_iload hC dX7_takes_60 rfl rfl) ?_
  refine aSims_c (i := 33) (s_bipush hC dX7_takes_62 rfl rfl rfl) ?_
  refine aSims_c (i := 34) (s_icmp_gt hC dX7_takes_64 rfl rfl rfl) ?_
  refine aSims_c (i := 35) (s_iload hC dX7_takes_67 rfl rfl) ?_
  refine aSims_c (i := 36) (s_iconst hC dX7_takes_69 rfl rfl rfl) ?_
  refine aSims_c (i := 37) (s_icmp_ne hC dX7_takes_70 rfl rfl rfl) ?_
  refine aSims_c (i := 38) (s_iconst hC dX7_takes_73 rfl rfl rfl) ?_
  refine aSims_c (i := 39) (s_istore hC dX7_takes_74 rfl rfl) ?_
  refine aSims_c (i := 40) (s_iload hC dX7_takes_76 rfl rfl) ?_
  refine aSims_c (i := 41) (s_iload_n hC dX7_takes_78 rfl rfl) ?_
  refine aSims_c (i := 42) (s_icmp_ge hC dX7_takes_79 rfl rfl rfl) ?_
  refine aSims_c (i := 43) (s_aload_n hC dX7_takes_82 rfl rfl) ?_
  refine aSims_c (i := 44) (s_iload_n hC dX7_takes_83 rfl rfl) ?_
  refine aSims_c (i := 45) (s_aload_n hC dX7_takes_84 rfl rfl) ?_
  refine aSims_c (i := 46) (s_iload_n hC dX7_takes_85 rfl rfl) ?_
  refine aSims_c (i := 47) (s_callV (n := 1) hC dX7_takes_86 rfl rfl (hE 191 _ _ _ _ rfl) (hF _ (by decide)) w_1299 w_1296 w_1298 w_91 w_109 rfl (by decide +kernel)) ?_
  refine aSims_c (i := 48) (s_iload_n hC dX7_takes_89 rfl rfl) ?_
  refine aSims_c (i := 49) (s_callV (n := 3) hC dX7_takes_90 rfl rfl (hE 181 _ _ _ _ rfl) (hF _ (by decide)) w_1258 w_1255 w_1257 w_85 w_109 rfl (by decide +kernel)) ?_
  refine aSims_c (i := 50) (s_iinc hC dX7_takes_93 rfl rfl) ?_
  refine aSims_c (i := 51) (s_goto hC dX7_takes_96 rfl rfl) ?_
  refine aSims_c (i := 52) (s_aload_n hC dX7_takes_99 rfl rfl) ?_
  refine aSims_c (i := 53) (s_iload_n hC dX7_takes_100 rfl rfl) ?_
  refine aSims_c (i := 54) (s_callV (n := 1) hC dX7_takes_101 rfl rfl (hE 179 _ _ _ _ rfl) (hF _ (by decide)) w_1213 w_1210 w_1212 w_81 w_109 rfl (by decide +kernel)) ?_
  refine aSims_c (i := 55) (s_bipush hC dX7_takes_104 rfl rfl rfl) ?_
  refine aSims_c (i := 56) (s_icmp_ne hC dX7_takes_106 rfl rfl rfl) ?_
  refine aSims_c (i := 57) (s_iload hC dX7_takes_109 rfl rfl) ?_
  refine aSims_c (i := 58) (s_goto hC dX7_takes_111 rfl rfl) ?_
  refine aSims_c (i := 59) (s_iconst hC dX7_takes_114 rfl rfl rfl) ?_
  refine aSims_c (i := 60) (s_istore hC dX7_takes_115 rfl rfl) ?_
  refine aSims_c (i := 61) (s_aload_n hC dX7_takes_117 rfl rfl) ?_
  refine aSims_c (i := 62) (s_iload_n hC dX7_takes_118 rfl rfl) ?_
  refine aSims_c (i := 63) (s_callV (n := 1) hC dX7_takes_119 rfl rfl (hE 183 _ _ _ _ rfl) (hF _ (by decide)) w_1266 w_1263 w_1265 w_86 w_109 rfl (by decide +kernel)) ?_
  refine aSims_c (i := 64) (s_aload_n hC dX7_takes_122 rfl rfl) ?_
  refine aSims_c (i := 65) (s_dup hC dX7_takes_123 rfl rfl) ?_
  refine aSims_c (i := 66) (s_get hC dX7_takes_124 rfl rfl w_849 rfl rfl inB7 (by decide)) ?_
  refine aSims_c (i := 67) (s_iconst hC dX7_takes_127 rfl rfl rfl) ?_
  refine aSims_c (i := 68) (s_iadd hC dX7_takes_128 rfl rfl) ?_
  refine aSims_c (i := 69) (s_put hC dX7_takes_129 rfl rfl w_849 rfl rfl inB7 tyX7_ok nmX7 (by decide) rfl) ?_
  refine aSims_c (i := 70) (s_iinc hC dX7_takes_132 rfl rfl) ?_
  refine aSims_c (i := 71) (s_goto hC dX7_takes_135 rfl rfl) ?_
  refine aSims_c (i := 72) (s_aload_n hC dX7_takes_138 rfl rfl) ?_
  refine aSims_c (i := 73) (s_iload_n hC dX7_takes_139 rfl rfl) ?_
  refine aSims_c (i := 74) (s_callV (n := 1) hC dX7_takes_140 rfl rfl (hE 187 _ _ _ _ rfl) (hF _ (by decide)) w_1286 w_1283 w_1285 w_90 w_109 rfl (by decide +kernel)) ?_
  refine aSims_c (i := 75) (s_iload hC dX7_takes_143 rfl rfl) ?_
  refine aSims_c (i := 76) (s_iret hC dX7_takes_145 rfl hr hlk nar_qI) ?_
  exact aSims_n
set_option maxHeartbeats 4000000 in
set_option maxRecDepth 20000 in
theorem sm_X7_late (hC : aC p s m args c cX7_late 4 RX7 D cA ad bs n0 H0 X) (hF : ∀ ml, ml ≤ 41 → aFit R d ml) (hRm : 16 ≤ R.frames ∧ 1000 ≤ R.locals) (hE : aCalls l D cA ad bs X d E) (hr : meth.sig.returnType = (some .int)) (hlk : meth.locks = false) : aSims (fun f i => aSim p l e R s m args below meth c (aEnd below s args D cA ad bs n0 z0 rv hf) 4 D cA ad bs n0 z0 H0 (apc pc_X7_late) rv hf E f i) (cd_X7_late) 0 := by
  unfold cd_X7_late
  refine aSims_c (i := 0) (s_aload_n hC dX7_late_0 rfl rfl) ?_
  refine aSims_c (i := 1) (s_iload_n hC dX7_late_1 rfl rfl) ?_
  refine aSims_c (i := 2) (s_callV (n := 1) hC dX7_late_2 rfl rfl (hE 115 _ _ _ _ rfl) (hF _ (by decide)) w_988 w_985 w_987 w_30 w_109 rfl (by decide +kernel)) ?_
  refine aSims_c (i := 3) (s_if_eq hC dX7_late_5 rfl rfl rfl) ?_
  refine aSims_c (i := 4) (s_iload_n hC dX7_late_8 rfl rfl) ?_
  refine aSims_c (i := 5) (s_callS hC dX7_late_9 rfl rfl (hE 116 _ _ _ _ rfl) (hF _ (by decide)) w_983 w_981 w_982 w_109 (by decide +kernel)) ?_
  refine aSims_c (i := 6) (s_if_ne hC dX7_late_12 rfl rfl rfl) ?_
  refine aSims_c (i := 7) (s_bipush hC dX7_late_15 rfl rfl rfl) ?_
  refine aSims_c (i := 8) (s_iret hC dX7_late_17 rfl hr hlk nar_qI) ?_
  refine aSims_c (i := 9) (s_aload_n hC dX7_late_18 rfl rfl) ?_
  refine aSims_c (i := 10) (s_iload_n hC dX7_late_19 rfl rfl) ?_
  refine aSims_c (i := 11) (s_callV (n := 1) hC dX7_late_20 rfl rfl (hE 186 _ _ _ _ rfl) (hF _ (by decide)) w_1278 w_1275 w_1277 w_88 w_109 rfl (by decide +kernel)) ?_
  refine aSims_c (i := 12) (s_iconst hC dX7_late_23 rfl rfl rfl) ?_
  refine aSims_c (i := 13) (s_istore_n hC dX7_late_24 rfl rfl) ?_
  refine aSims_c (i := 14) (s_iload_n hC dX7_late_25 rfl rfl) ?_
  refine aSims_c (i := 15) (s_bipush hC dX7_late_26 rfl rfl rfl) ?_
  refine aSims_c (i := 16) (s_icmp_gt hC dX7_late_28 rfl rfl rfl) ?_
  refine aSims_c (i := 17) (s_aload_n hC dX7_late_31 rfl rfl) ?_
  refine aSims_c (i := 18) (s_iload_n hC dX7_late_32 rfl rfl) ?_
  refine aSims_c (i := 19) (s_iload_n hC dX7_late_33 rfl rfl) ?_
  refine aSims_c (i := 20) (s_callV (n := 2) hC dX7_late_34 rfl rfl (hE 178 _ _ _ _ rfl) (hF _ (by decide)) w_1004 w_1001 w_1003 w_31 w_109 rfl (by decide +kernel)) ?_
  refine aSims_c (i := 21) (s_if_ne hC dX7_late_37 rfl rfl rfl) ?_
  refine aSims_c (i := 22) (s_aload_n hC dX7_late_40 rfl rfl) ?_
  refine aSims_c (i := 23) (s_iload_n hC dX7_late_41 rfl rfl) ?_
  refine aSims_c (i := 24) (s_iload_n hC dX7_late_42 rfl rfl) ?_
  refine aSims_c (i := 25) (s_iconst hC dX7_late_43 rfl rfl rfl) ?_
  refine aSims_c (i := 26) (s_callV (n := 3) hC dX7_late_44 rfl rfl (hE 181 _ _ _ _ rfl) (hF _ (by decide)) w_1258 w_1255 w_1257 w_85 w_109 rfl (by decide +kernel)) ?_
  refine aSims_c (i := 27) (s_iinc hC dX7_late_47 rfl rfl) ?_
  refine aSims_c (i := 28) (s_goto hC dX7_late_50 rfl rfl) ?_
  refine aSims_c (i := 29) (s_aload_n hC dX7_late_53 rfl rfl) ?_
  refine aSims_c (i := 30) (s_iload_n hC dX7_late_54 rfl rfl) ?_
  refine aSims_c (i := 31) (s_callV (n := 1) hC dX7_late_55 rfl rfl (hE 187 _ _ _ _ rfl) (hF _ (by decide)) w_1286 w_1283 w_1285 w_90 w_109 rfl (by decide +kernel)) ?_
  refine aSims_c (i := 32) (s_iload_n hC dX7_late_58 rfl rfl) ?_
  refine aSims_c (i := 33) (s_bipush hC dX7_late_59 rfl rfl rfl) ?_
  refine aSims_c (i := 34) (s_icmp_le hC dX7_late_61 rfl rfl rfl) ?_
  refine aSims_c (i := 35) (s_iconst hC dX7_late_64 rfl rfl rfl) ?_
  refine aSims_c (i := 36) (s_goto hC dX7_late_65 rfl rfl) ?_
  refine aSims_c (i := 37) (s_iload_n hC dX7_late_68 rfl rfl) ?_
  refine aSims_c (i := 38) (s_iret hC dX7_late_69 rfl hr hlk nar_qI) ?_
  exact aSims_n
set_option maxHeartbeats 4000000 in
set_option maxRecDepth 20000 in
theorem sm_X7_gap (hC : aC p s m args c cX7_gap 5 RX7 D cA ad bs n0 H0 X) (hF : ∀ ml, ml ≤ 41 → aFit R d ml) (hRm : 16 ≤ R.frames ∧ 1000 ≤ R.locals) (hE : aCalls l D cA ad bs X d E) (hr : meth.sig.returnType = (some .int)) (hlk : meth.locks = false) : aSims (fun f i => aSim p l e R s m args below meth c (aEnd below s args D cA ad bs n0 z0 rv hf) 5 D cA ad bs n0 z0 H0 (apc pc_X7_gap) rv hf E f i) (cd_X7_gap) 0 := by
  unfold cd_X7_gap
  refine aSims_c (i := 0) (s_aload_n hC dX7_gap_0 rfl rfl) ?_
  refine aSims_c (i := 1) (s_iload_n hC dX7_gap_1 rfl rfl) ?_
  refine aSims_c (i := 2) (s_callV (n := 1) hC dX7_gap_2 rfl rfl (hE 115 _ _ _ _ rfl) (hF _ (by decide)) w_988 w_985 w_987 w_30 w_109 rfl (by decide +kernel)) ?_
  refine aSims_c (i := 3) (s_if_eq hC dX7_gap_5 rfl rfl rfl) ?_
  refine aSims_c (i := 4) (s_iload_n hC dX7_gap_8 rfl rfl) ?_
  refine aSims_c (i := 5) (s_i2l hC dX7_gap_9 rfl rfl) ?_
  refine aSims_c (i := 6) (s_lconst hC dX7_gap_10 rfl rfl rfl) ?_
  refine aSims_c (i := 7) (s_lconst hC dX7_gap_11 rfl rfl rfl) ?_
  refine aSims_c (i := 8) (s_callS hC dX7_gap_12 rfl rfl (hE 111 _ _ _ _ rfl) (hF _ (by decide)) w_974 w_972 w_973 w_109 (by decide +kernel)) ?_
  refine aSims_c (i := 9) (s_if_ne hC dX7_gap_15 rfl rfl rfl) ?_
  refine aSims_c (i := 10) (s_sipush hC dX7_gap_18 rfl rfl rfl) ?_
  refine aSims_c (i := 11) (s_iret hC dX7_gap_21 rfl hr hlk nar_qI) ?_
  refine aSims_c (i := 12) (s_iconst hC dX7_gap_22 rfl rfl rfl) ?_
  refine aSims_c (i := 13) (s_istore_n hC dX7_gap_23 rfl rfl) ?_
  refine aSims_c (i := 14) (s_iconst hC dX7_gap_24 rfl rfl rfl) ?_
  refine aSims_c (i := 15) (s_istore hC dX7_gap_25 rfl rfl) ?_
  refine aSims_c (i := 16) (s_iload hC dX7_gap_27 rfl rfl) ?_
  refine aSims_c (i := 17) (s_bipush hC dX7_gap_29 rfl rfl rfl) ?_
  refine aSims_c (i := 18) (s_icmp_ge hC dX7_gap_31 rfl rfl rfl) ?_
  refine aSims_c (i := 19) (s_aload_n hC dX7_gap_34 rfl rfl) ?_
  refine aSims_c (i := 20) (s_iload_n hC dX7_gap_35 rfl rfl) ?_
  refine aSims_c (i := 21) (s_iload hC dX7_gap_36 rfl rfl) ?_
  refine aSims_c (i := 22) (s_callV (n := 2) hC dX7_gap_38 rfl rfl (hE 177 _ _ _ _ rfl) (hF _ (by decide)) w_1008 w_1005 w_1007 w_32 w_109 rfl (by decide +kernel)) ?_
  refine aSims_c (i := 23) (s_aload_n hC dX7_gap_41 rfl rfl) ?_
  refine aSims_c (i := 24) (s_iload_n hC dX7_gap_42 rfl rfl) ?_
  refine aSims_c (i := 25) (s_iload_n hC dX7_gap_43 rfl rfl) ?_
  refine aSims_c (i := 26) (s_callV (n := 2) hC dX7_gap_44 rfl rfl (hE 177 _ _ _ _ rfl) (hF _ (by decide)) w_1008 w_1005 w_1007 w_32 w_109 rfl (by decide +kernel)) ?_
  refine aSims_c (i := 27) (s_icmp_ge hC dX7_gap_47 rfl rfl rfl) ?_
  refine aSims_c (i := 28) (s_iload hC dX7_gap_50 rfl rfl) ?_
  refine aSims_c (i := 29) (s_goto hC dX7_gap_52 rfl rfl) ?_
  refine aSims_c (i := 30) (s_iload_n hC dX7_gap_55 rfl rfl) ?_
  refine aSims_c (i := 31) (s_istore_n hC dX7_gap_56 rfl rfl) ?_
  refine aSims_c (i := 32) (s_iinc hC dX7_gap_57 rfl rfl) ?_
  refine aSims_c (i := 33) (s_goto hC dX7_gap_60 rfl rfl) ?_
  refine aSims_c (i := 34) (s_iload_n hC dX7_gap_63 rfl rfl) ?_
  refine aSims_c (i := 35) (s_if_ne hC dX7_gap_64 rfl rfl rfl) ?_
  refine aSims_c (i := 36) (s_iload_n hC dX7_gap_67 rfl rfl) ?_
  refine aSims_c (i := 37) (s_goto hC dX7_gap_68 rfl rfl) ?_
  refine aSims_c (i := 38) (s_aload_n hC dX7_gap_71 rfl rfl) ?_
  refine aSims_c (i := 39) (s_iload_n hC dX7_gap_72 rfl rfl) ?_
  refine aSims_c (i := 40) (s_iload_n hC dX7_gap_73 rfl rfl) ?_
  refine aSims_c (i := 41) (s_callV (n := 2) hC dX7_gap_74 rfl rfl (hE 177 _ _ _ _ rfl) (hF _ (by decide)) w_1008 w_1005 w_1007 w_32 w_109 rfl (by decide +kernel)) ?_
  refine aSims_c (i := 42) (s_iret hC dX7_gap_77 rfl hr hlk nar_qI) ?_
  exact aSims_n
set_option maxHeartbeats 4000000 in
set_option maxRecDepth 20000 in
theorem sm_X7_faded (hC : aC p s m args c cX7_faded 4 RX7 D cA ad bs n0 H0 X) (hF : ∀ ml, ml ≤ 41 → aFit R d ml) (hRm : 16 ≤ R.frames ∧ 1000 ≤ R.locals) (hE : aCalls l D cA ad bs X d E) (hr : meth.sig.returnType = (some .int)) (hlk : meth.locks = false) : aSims (fun f i => aSim p l e R s m args below meth c (aEnd below s args D cA ad bs n0 z0 rv hf) 4 D cA ad bs n0 z0 H0 (apc pc_X7_faded) rv hf E f i) (cd_X7_faded) 0 := by
  unfold cd_X7_faded
  refine aSims_c (i := 0) (s_aload_n hC dX7_faded_0 rfl rfl) ?_
  refine aSims_c (i := 1) (s_iload_n hC dX7_faded_1 rfl rfl) ?_
  refine aSims_c (i := 2) (s_callV (n := 1) hC dX7_faded_2 rfl rfl (hE 115 _ _ _ _ rfl) (hF _ (by decide)) w_988 w_985 w_987 w_30 w_109 rfl (by decide +kernel)) ?_
  refine aSims_c (i := 3) (s_if_eq hC dX7_faded_5 rfl rfl rfl) ?_
  refine aSims_c (i := 4) (s_iload_n hC dX7_faded_8 rfl rfl) ?_
  refine aSims_c (i := 5) (s_i2l hC dX7_faded_9 rfl rfl) ?_
  refine aSims_c (i := 6) (s_lconst hC dX7_faded_10 rfl rfl rfl) ?_
  refine aSims_c (i := 7) (s_ldc2 hC dX7_faded_11 w_1312 rfl rfl) ?_
  refine aSims_c (i := 8) (s_callS hC dX7_faded_14 rfl rfl (hE 111 _ _ _ _ rfl) (hF _ (by decide)) w_974 w_972 w_973 w_109 (by decide +kernel)) ?_
  refine aSims_c (i := 9) (s_if_ne hC dX7_faded_17 rfl rfl rfl) ?_
  refine aSims_c (i := 10) (s_bipush hC dX7_faded_20 rfl rfl rfl) ?_
  refine aSims_c (i := 11) (s_iret hC dX7_faded_22 rfl hr hlk nar_qI) ?_
  refine aSims_c (i := 12) (s_aload_n hC dX7_faded_23 rfl rfl) ?_
  refine aSims_c (i := 13) (s_iload_n hC dX7_faded_24 rfl rfl) ?_
  refine aSims_c (i := 14) (s_callV (n := 1) hC dX7_faded_25 rfl rfl (hE 186 _ _ _ _ rfl) (hF _ (by decide)) w_1278 w_1275 w_1277 w_88 w_109 rfl (by decide +kernel)) ?_
  refine aSims_c (i := 15) (s_iconst hC dX7_faded_28 rfl rfl rfl) ?_
  refine aSims_c (i := 16) (s_istore_n hC dX7_faded_29 rfl rfl) ?_
  refine aSims_c (i := 17) (s_iload_n hC dX7_faded_30 rfl rfl) ?_
  refine aSims_c (i := 18) (s_iload_n hC dX7_faded_31 rfl rfl) ?_
  refine aSims_c (i := 19) (s_icmp_ge hC dX7_faded_32 rfl rfl rfl) ?_
  refine aSims_c (i := 20) (s_aload_n hC dX7_faded_35 rfl rfl) ?_
  refine aSims_c (i := 21) (s_iload_n hC dX7_faded_36 rfl rfl) ?_
  refine aSims_c (i := 22) (s_callV (n := 1) hC dX7_faded_37 rfl rfl (hE 183 _ _ _ _ rfl) (hF _ (by decide)) w_1266 w_1263 w_1265 w_86 w_109 rfl (by decide +kernel)) ?_
  refine aSims_c (i := 23) (s_aload_n hC dX7_faded_40 rfl rfl) ?_
  refine aSims_c (i := 24) (s_dup hC dX7_faded_41 rfl rfl) ?_
  refine aSims_c (i := 25) (s_get hC dX7_faded_42 rfl rfl w_849 rfl rfl inB7 (by decide)) ?_
  refine aSims_c (i := 26) (s_iconst hC dX7_faded_45 rfl rfl rfl) ?_
  refine aSims_c (i := 27) (s_iadd hC dX7_faded_46 rfl rfl) ?_
  refine aSims_c (i := 28) (s_put hC dX7_faded_47 rfl rfl w_849 rfl rfl inB7 tyX7_ok nmX7 (by decide) rfl) ?_
  refine aSims_c (i := 29) (s_iinc hC dX7_faded_50 rfl rfl) ?_
  refine aSims_c (i := 30) (s_goto hC dX7_faded_53 rfl rfl) ?_
  refine aSims_c (i := 31) (s_aload_n hC dX7_faded_56 rfl rfl) ?_
  refine aSims_c (i := 32) (s_iload_n hC dX7_faded_57 rfl rfl) ?_
  refine aSims_c (i := 33) (s_callV (n := 1) hC dX7_faded_58 rfl rfl (hE 179 _ _ _ _ rfl) (hF _ (by decide)) w_1213 w_1210 w_1212 w_81 w_109 rfl (by decide +kernel)) ?_
  refine aSims_c (i := 34) (s_istore_n hC dX7_faded_61 rfl rfl) ?_
  refine aSims_c (i := 35) (s_aload_n hC dX7_faded_62 rfl rfl) ?_
  refine aSims_c (i := 36) (s_iload_n hC dX7_faded_63 rfl rfl) ?_
  refine aSims_c (i := 37) (s_callV (n := 1) hC dX7_faded_64 rfl rfl (hE 187 _ _ _ _ rfl) (hF _ (by decide)) w_1286 w_1283 w_1285 w_90 w_109 rfl (by decide +kernel)) ?_
  refine aSims_c (i := 38) (s_iload_n hC dX7_faded_67 rfl rfl) ?_
  refine aSims_c (i := 39) (s_iret hC dX7_faded_68 rfl hr hlk nar_qI) ?_
  exact aSims_n
set_option maxHeartbeats 4000000 in
set_option maxRecDepth 20000 in
theorem sm_X7_lowest (hC : aC p s m args c cX7_lowest 11 RX7 D cA ad bs n0 H0 X) (hF : ∀ ml, ml ≤ 41 → aFit R d ml) (hRm : 16 ≤ R.frames ∧ 1000 ≤ R.locals) (hE : aCalls l D cA ad bs X d E) (hr : meth.sig.returnType = (some .long)) (hlk : meth.locks = false) : aSims (fun f i => aSim p l e R s m args below meth c (aEnd below s args D cA ad bs n0 z0 rv hf) 11 D cA ad bs n0 z0 H0 (apc pc_X7_lowest) rv hf E f i) (cd_X7_lowest) 0 := by
  unfold cd_X7_lowest
  refine aSims_c (i := 0) (s_lload_n hC dX7_lowest_0 rfl rfl) ?_
  refine aSims_c (i := 1) (s_lstore hC dX7_lowest_1 rfl rfl) ?_
  refine aSims_c (i := 2) (s_lload_n hC dX7_lowest_3 rfl rfl) ?_
  refine aSims_c (i := 3) (s_lstore hC dX7_lowest_4 rfl rfl) ?_
  refine aSims_c (i := 4) (s_lload hC dX7_lowest_6 rfl rfl) ?_
  refine aSims_c (i := 5) (s_lconst hC dX7_lowest_8 rfl rfl rfl) ?_
  refine aSims_c (i := 6) (s_lcmp hC dX7_lowest_9 rfl rfl) ?_
  refine aSims_c (i := 7) (s_if_eq hC dX7_lowest_10 rfl rfl rfl) ?_
  refine aSims_c (i := 8) (s_lload hC dX7_lowest_13 rfl rfl) ?_
  refine aSims_c (i := 9) (s_lload hC dX7_lowest_15 rfl rfl) ?_
  refine aSims_c (i := 10) (s_lrem hC dX7_lowest_17 rfl rfl) ?_
  refine aSims_c (i := 11) (s_lstore hC dX7_lowest_18 rfl rfl) ?_
  refine aSims_c (i := 12) (s_lload hC dX7_lowest_20 rfl rfl) ?_
  refine aSims_c (i := 13) (s_lstore hC dX7_lowest_22 rfl rfl) ?_
  refine aSims_c (i := 14) (s_lload hC dX7_lowest_24 rfl rfl) ?_
  refine aSims_c (i := 15) (s_lstore hC dX7_lowest_26 rfl rfl) ?_
  refine aSims_c (i := 16) (s_goto hC dX7_lowest_28 rfl rfl) ?_
  refine aSims_c (i := 17) (s_iload hC dX7_lowest_31 rfl rfl) ?_
  refine aSims_c (i := 18) (s_if_ne hC dX7_lowest_33 rfl rfl rfl) ?_
  refine aSims_c (i := 19) (s_lload_n hC dX7_lowest_36 rfl rfl) ?_
  refine aSims_c (i := 20) (s_lload hC dX7_lowest_37 rfl rfl) ?_
  refine aSims_c (i := 21) (s_ldiv hC dX7_lowest_39 rfl rfl) ?_
  refine aSims_c (i := 22) (s_goto hC dX7_lowest_40 rfl rfl) ?_
  refine aSims_c (i := 23) (s_lload_n hC dX7_lowest_43 rfl rfl) ?_
  refine aSims_c (i := 24) (s_lload hC dX7_lowest_44 rfl rfl) ?_
  refine aSims_c (i := 25) (s_ldiv hC dX7_lowest_46 rfl rfl) ?_
  refine aSims_c (i := 26) (s_lret hC dX7_lowest_47 rfl hr hlk) ?_
  exact aSims_n
set_option maxHeartbeats 4000000 in
set_option maxRecDepth 20000 in
theorem sm_X7_test (hC : aC p s m args c cX7_test 9 RX7 D cA ad bs n0 H0 X) (hF : ∀ ml, ml ≤ 41 → aFit R d ml) (hRm : 16 ≤ R.frames ∧ 1000 ≤ R.locals) (hE : aCalls l D cA ad bs X d E) (hr : meth.sig.returnType = (some .long)) (hlk : meth.locks = false) : aSims (fun f i => aSim p l e R s m args below meth c (aEnd below s args D cA ad bs n0 z0 rv hf) 9 D cA ad bs n0 z0 H0 (apc pc_X7_test) rv hf E f i) (cd_X7_test) 0 := by
  unfold cd_X7_test
  refine aSims_c (i := 0) (s_aload_n hC dX7_test_0 rfl rfl) ?_
  refine aSims_c (i := 1) (s_iload_n hC dX7_test_1 rfl rfl) ?_
  refine aSims_c (i := 2) (s_callV (n := 1) hC dX7_test_2 rfl rfl (hE 115 _ _ _ _ rfl) (hF _ (by decide)) w_988 w_985 w_987 w_30 w_109 rfl (by decide +kernel)) ?_
  refine aSims_c (i := 3) (s_if_eq hC dX7_test_5 rfl rfl rfl) ?_
  refine aSims_c (i := 4) (s_iload_n hC dX7_test_8 rfl rfl) ?_
  refine aSims_c (i := 5) (s_i2l hC dX7_test_9 rfl rfl) ?_
  refine aSims_c (i := 6) (s_lconst hC dX7_test_10 rfl rfl rfl) ?_
  refine aSims_c (i := 7) (s_ldc2 hC dX7_test_11 w_1229 rfl rfl) ?_
  refine aSims_c (i := 8) (s_callS hC dX7_test_14 rfl rfl (hE 111 _ _ _ _ rfl) (hF _ (by decide)) w_974 w_972 w_973 w_109 (by decide +kernel)) ?_
  refine aSims_c (i := 9) (s_if_eq hC dX7_test_17 rfl rfl rfl) ?_
  refine aSims_c (i := 10) (s_iload_n hC dX7_test_20 rfl rfl) ?_
  refine aSims_c (i := 11) (s_i2l hC dX7_test_21 rfl rfl) ?_
  refine aSims_c (i := 12) (s_lconst hC dX7_test_22 rfl rfl rfl) ?_
  refine aSims_c (i := 13) (s_lconst hC dX7_test_23 rfl rfl rfl) ?_
  refine aSims_c (i := 14) (s_callS hC dX7_test_24 rfl rfl (hE 111 _ _ _ _ rfl) (hF _ (by decide)) w_974 w_972 w_973 w_109 (by decide +kernel)) ?_
  refine aSims_c (i := 15) (s_if_ne hC dX7_test_27 rfl rfl rfl) ?_
  refine aSims_c (i := 16) (s_ldc2 hC dX7_test_30 w_1317 rfl rfl) ?_
  refine aSims_c (i := 17) (s_lret hC dX7_test_33 rfl hr hlk) ?_
  refine aSims_c (i := 18) (s_lconst hC dX7_test_34 rfl rfl rfl) ?_
  refine aSims_c (i := 19) (s_lstore hC dX7_test_35 rfl rfl) ?_
  refine aSims_c (i := 20) (s_lconst hC dX7_test_37 rfl rfl rfl) ?_
  refine aSims_c (i := 21) (s_lstore hC dX7_test_38 rfl rfl) ?_
  refine aSims_c (i := 22) (s_iconst hC dX7_test_40 rfl rfl rfl) ?_
  refine aSims_c (i := 23) (s_istore hC dX7_test_41 rfl rfl) ?_
  refine aSims_c (i := 24) (s_iload hC dX7_test_43 rfl rfl) ?_
  refine aSims_c (i := 25) (s_bipush hC dX7_test_45 rfl rfl rfl) ?_
  refine aSims_c (i := 26) (s_icmp_ge hC dX7_test_47 rfl rfl rfl) ?_
  refine aSims_c (i := 27) (s_iload_n hC dX7_test_50 rfl rfl) ?_
  refine aSims_c (i := 28) (s_iload hC dX7_test_51 rfl rfl) ?_
  refine aSims_c (i := 29) (s_ishr hC dX7_test_53 rfl rfl) ?_
  refine aSims_c (i := 30) (s_iconst hC dX7_test_54 rfl rfl rfl) ?_
  refine aSims_c (i := 31) (s_iand hC dX7_test_55 rfl rfl) ?_
  refine aSims_c (i := 32) (s_iconst hC dX7_test_56 rfl rfl rfl) ?_
  refine aSims_c (i := 33) (s_icmp_ne hC dX7_test_57 rfl rfl rfl) ?_
  refine aSims_c (i := 34) (s_lload hC dX7_test_60 rfl rfl) ?_
  refine aSims_c (i := 35) (s_aload_n hC dX7_test_62 rfl rfl) ?_
  refine aSims_c (i := 36) (s_get hC dX7_test_63 rfl rfl w_853 rfl rfl inB7 (by decide)) ?_
  refine aSims_c (i := 37) (s_iload_n hC dX7_test_66 rfl rfl) ?_
  refine aSims_c (i := 38) (s_iload hC dX7_test_67 rfl rfl) ?_
  refine aSims_c (i := 39) (s_callS hC dX7_test_69 rfl rfl (hE 117 _ _ _ _ rfl) (hF _ (by decide)) w_1000 w_998 w_999 w_109 (by decide +kernel)) ?_
  refine aSims_c (i := 40) (s_iaload hC hX0 dX7_test_72 rfl rfl) ?_
  refine aSims_c (i := 41) (s_i2l hC dX7_test_73 rfl rfl) ?_
  refine aSims_c (i := 42) (s_lmul hC dX7_test_74 rfl rfl) ?_
  refine aSims_c (i := 43) (s_lstore hC dX7_test_75 rfl rfl) ?_
  refine aSims_c (i := 44) (s_lload hC dX7_test_77 rfl rfl) ?_
  refine aSims_c (i := 45) (s_ldc2 hC dX7_test_79 w_1318 rfl rfl) ?_
  refine aSims_c (i := 46) (s_lmul hC dX7_test_82 rfl rfl) ?_
  refine aSims_c (i := 47) (s_lstore hC dX7_test_83 rfl rfl) ?_
  refine aSims_c (i := 48) (s_iinc hC dX7_test_85 rfl rfl) ?_
  refine aSims_c (i := 49) (s_goto hC dX7_test_88 rfl rfl) ?_
  refine aSims_c (i := 50) (s_lload hC dX7_test_91 rfl rfl) ?_
  refine aSims_c (i := 51) (s_lload hC dX7_test_93 rfl rfl) ?_
  refine aSims_c (i := 52) (s_iload_n hC dX7_test_95 rfl rfl) ?_
  refine aSims_c (i := 53) (s_callS hC dX7_test_96 rfl rfl (hE 196 _ _ _ _ rfl) (hF _ (by decide)) w_1321 w_1319 w_1320 w_109 (by decide +kernel)) ?_
  refine aSims_c (i := 54) (s_lret hC dX7_test_99 rfl hr hlk) ?_
  exact aSims_n
set_option maxHeartbeats 4000000 in
set_option maxRecDepth 20000 in
theorem sm_X7_firstOther (hC : aC p s m args c cX7_firstOther 7 RX7 D cA ad bs n0 H0 X) (hF : ∀ ml, ml ≤ 41 → aFit R d ml) (hRm : 16 ≤ R.frames ∧ 1000 ≤ R.locals) (hE : aCalls l D cA ad bs X d E) (hr : meth.sig.returnType = (some .int)) (hlk : meth.locks = false) : aSims (fun f i => aSim p l e R s m args below meth c (aEnd below s args D cA ad bs n0 z0 rv hf) 7 D cA ad bs n0 z0 H0 (apc pc_X7_firstOther) rv hf E f i) (cd_X7_firstOther) 0 := by
  unfold cd_X7_firstOther
  refine aSims_c (i := 0) (s_iconst hC dX7_firstOther_0 rfl rfl rfl) ?_
  refine aSims_c (i := 1) (s_istore hC dX7_firstOther_1 rfl rfl) ?_
  refine aSims_c (i := 2) (s_aload_n hC dX7_firstOther_3 rfl rfl) ?_
  refine aSims_c (i := 3) (s_iload_n hC dX7_firstOther_4 rfl rfl) ?_
  refine aSims_c (i := 4) (s_callV (n := 1) hC dX7_firstOther_5 rfl rfl (hE 186 _ _ _ _ rfl) (hF _ (by decide)) w_1278 w_1275 w_1277 w_88 w_109 rfl (by decide +kernel)) ?_
  refine aSims_c (i := 5) (s_iconst hC dX7_firstOther_8 rfl rfl rfl) ?_
  refine aSims_c (i := 6) (s_istore hC dX7_firstOther_9 rfl rfl) ?_
  refine aSims_c (i := 7) (s_iload hC dX7_firstOther_11 rfl rfl) ?_
  refine aSims_c (i := 8) (s_aload_n hC dX7_firstOther_13 rfl rfl) ?_
  refine aSims_c (i := 9) (s_get hC dX7_firstOther_14 rfl rfl w_881 rfl rfl inB7 (by decide)) ?_
  refine aSims_c (i := 10) (s_iload_n hC dX7_firstOther_17 rfl rfl) ?_
  refine aSims_c (i := 11) (s_iaload hC hX0 dX7_firstOther_18 rfl rfl) ?_
  refine aSims_c (i := 12) (s_icmp_ge hC dX7_firstOther_19 rfl rfl rfl) ?_
  refine aSims_c (i := 13) (s_iload hC dX7_firstOther_22 rfl rfl) ?_
  refine aSims_c (i := 14) (s_iconst hC dX7_firstOther_24 rfl rfl rfl) ?_
  refine aSims_c (i := 15) (s_icmp_ne hC dX7_firstOther_25 rfl rfl rfl) ?_
  refine aSims_c (i := 16) (s_aload_n hC dX7_firstOther_28 rfl rfl) ?_
  refine aSims_c (i := 17) (s_iload_n hC dX7_firstOther_29 rfl rfl) ?_
  refine aSims_c (i := 18) (s_iload_n hC dX7_firstOther_30 rfl rfl) ?_
  refine aSims_c (i := 19) (s_iload hC dX7_firstOther_31 rfl rfl) ?_
  refine aSims_c (i := 20) (s_callV (n := 3) hC dX7_firstOther_33 rfl rfl (hE 181 _ _ _ _ rfl) (hF _ (by decide)) w_1258 w_1255 w_1257 w_85 w_109 rfl (by decide +kernel)) ?_
  refine aSims_c (i := 21) (s_aload_n hC dX7_firstOther_36 rfl rfl) ?_
  refine aSims_c (i := 22) (s_get hC dX7_firstOther_37 rfl rfl w_853 rfl rfl inB7 (by decide)) ?_
  refine aSims_c (i := 23) (s_iload_n hC dX7_firstOther_40 rfl rfl) ?_
  refine aSims_c (i := 24) (s_iload_n hC dX7_firstOther_41 rfl rfl) ?_
  refine aSims_c (i := 25) (s_callS hC dX7_firstOther_42 rfl rfl (hE 117 _ _ _ _ rfl) (hF _ (by decide)) w_1000 w_998 w_999 w_109 (by decide +kernel)) ?_
  refine aSims_c (i := 26) (s_iaload hC hX0 dX7_firstOther_45 rfl rfl) ?_
  refine aSims_c (i := 27) (s_aload_n hC dX7_firstOther_46 rfl rfl) ?_
  refine aSims_c (i := 28) (s_get hC dX7_firstOther_47 rfl rfl w_882 rfl rfl inB7 (by decide)) ?_
  refine aSims_c (i := 29) (s_bipush hC dX7_firstOther_50 rfl rfl rfl) ?_
  refine aSims_c (i := 30) (s_iload_n hC dX7_firstOther_52 rfl rfl) ?_
  refine aSims_c (i := 31) (s_imul hC dX7_firstOther_53 rfl rfl) ?_
  refine aSims_c (i := 32) (s_iload hC dX7_firstOther_54 rfl rfl) ?_
  refine aSims_c (i := 33) (s_iadd hC dX7_firstOther_56 rfl rfl) ?_
  refine aSims_c (i := 34) (s_iaload hC hX0 dX7_firstOther_57 rfl rfl) ?_
  refine aSims_c (i := 35) (s_icmp_ne hC dX7_firstOther_58 rfl rfl rfl) ?_
  refine aSims_c (i := 36) (s_iconst hC dX7_firstOther_61 rfl rfl rfl) ?_
  refine aSims_c (i := 37) (s_goto hC dX7_firstOther_62 rfl rfl) ?_
  refine aSims_c (i := 38) (s_iload hC dX7_firstOther_65 rfl rfl) ?_
  refine aSims_c (i := 39) (s_istore hC dX7_firstOther_67 rfl rfl) ?_
  refine aSims_c (i := 40) (s_iinc hC dX7_firstOther_69 rfl rfl) ?_
  refine aSims_c (i := 41) (s_goto hC dX7_firstOther_72 rfl rfl) ?_
  refine aSims_c (i := 42) (s_aload_n hC dX7_firstOther_75 rfl rfl) ?_
  refine aSims_c (i := 43) (s_iload_n hC dX7_firstOther_76 rfl rfl) ?_
  refine aSims_c (i := 44) (s_callV (n := 1) hC dX7_firstOther_77 rfl rfl (hE 187 _ _ _ _ rfl) (hF _ (by decide)) w_1286 w_1283 w_1285 w_90 w_109 rfl (by decide +kernel)) ?_
  refine aSims_c (i := 45) (s_iload hC dX7_firstOther_80 rfl rfl) ?_
  refine aSims_c (i := 46) (s_iret hC dX7_firstOther_82 rfl hr hlk nar_qI) ?_
  exact aSims_n
set_option maxHeartbeats 4000000 in
set_option maxRecDepth 20000 in
theorem sm_X7_isStreetHelp (hC : aC p s m args c cX7_isStreetHelp 1 RX7 D cA ad bs n0 H0 X) (hF : ∀ ml, ml ≤ 41 → aFit R d ml) (hRm : 16 ≤ R.frames ∧ 1000 ≤ R.locals) (hE : aCalls l D cA ad bs X d E) (hr : meth.sig.returnType = (some .boolean)) (hlk : meth.locks = false) : aSims (fun f i => aSim p l e R s m args below meth c (aEnd below s args D cA ad bs n0 z0 rv hf) 1 D cA ad bs n0 z0 H0 (apc pc_X7_isStreetHelp) rv hf E f i) (cd_X7_isStreetHelp) 0 := by
  unfold cd_X7_isStreetHelp
  refine aSims_c (i := 0) (s_iload_n hC dX7_isStreetHelp_0 rfl rfl) ?_
  refine aSims_c (i := 1) (s_i2l hC dX7_isStreetHelp_1 rfl rfl) ?_
  refine aSims_c (i := 2) (s_lconst hC dX7_isStreetHelp_2 rfl rfl rfl) ?_
  refine aSims_c (i := 3) (s_ldc2 hC dX7_isStreetHelp_3 w_1332 rfl rfl) ?_
  refine aSims_c (i := 4) (s_callS hC dX7_isStreetHelp_6 rfl rfl (hE 111 _ _ _ _ rfl) (hF _ (by decide)) w_974 w_972 w_973 w_109 (by decide +kernel)) ?_
  refine aSims_c (i := 5) (s_if_eq hC dX7_isStreetHelp_9 rfl rfl rfl) ?_
  refine aSims_c (i := 6) (s_iload_n hC dX7_isStreetHelp_12 rfl rfl) ?_
  refine aSims_c (i := 7) (s_bipush hC dX7_isStreetHelp_13 rfl rfl rfl) ?_
  refine aSims_c (i := 8) (s_irem hC dX7_isStreetHelp_15 rfl rfl) ?_
  refine aSims_c (i := 9) (s_iconst hC dX7_isStreetHelp_16 rfl rfl rfl) ?_
  refine aSims_c (i := 10) (s_icmp_ge hC dX7_isStreetHelp_17 rfl rfl rfl) ?_
  refine aSims_c (i := 11) (s_iconst hC dX7_isStreetHelp_20 rfl rfl rfl) ?_
  refine aSims_c (i := 12) (s_goto hC dX7_isStreetHelp_21 rfl rfl) ?_
  refine aSims_c (i := 13) (s_iconst hC dX7_isStreetHelp_24 rfl rfl rfl) ?_
  refine aSims_c (i := 14) (s_iret hC dX7_isStreetHelp_25 rfl hr hlk nar_qZ) ?_
  exact aSims_n
set_option maxHeartbeats 4000000 in
set_option maxRecDepth 20000 in
theorem sm_X7_helpsBy (hC : aC p s m args c cX7_helpsBy 6 RX7 D cA ad bs n0 H0 X) (hF : ∀ ml, ml ≤ 41 → aFit R d ml) (hRm : 16 ≤ R.frames ∧ 1000 ≤ R.locals) (hE : aCalls l D cA ad bs X d E) (hr : meth.sig.returnType = (some .int)) (hlk : meth.locks = false) : aSims (fun f i => aSim p l e R s m args below meth c (aEnd below s args D cA ad bs n0 z0 rv hf) 6 D cA ad bs n0 z0 H0 (apc pc_X7_helpsBy) rv hf E f i) (cd_X7_helpsBy) 0 := by
  unfold cd_X7_helpsBy
  refine aSims_c (i := 0) (s_iconst hC dX7_helpsBy_0 rfl rfl rfl) ?_
  refine aSims_c (i := 1) (s_istore hC dX7_helpsBy_1 rfl rfl) ?_
  refine aSims_c (i := 2) (s_iconst hC dX7_helpsBy_3 rfl rfl rfl) ?_
  refine aSims_c (i := 3) (s_istore hC dX7_helpsBy_4 rfl rfl) ?_
  refine aSims_c (i := 4) (s_iload hC dX7_helpsBy_6 rfl rfl) ?_
  refine aSims_c (i := 5) (s_iconst hC dX7_helpsBy_8 rfl rfl rfl) ?_
  refine aSims_c (i := 6) (s_icmp_ge hC dX7_helpsBy_9 rfl rfl rfl) ?_
  refine aSims_c (i := 7) (s_iload hC dX7_helpsBy_12 rfl rfl) ?_
  refine aSims_c (i := 8) (s_aload_n hC dX7_helpsBy_14 rfl rfl) ?_
  refine aSims_c (i := 9) (s_iload_n hC dX7_helpsBy_15 rfl rfl) ?_
  refine aSims_c (i := 10) (s_iload_n hC dX7_helpsBy_16 rfl rfl) ?_
  refine aSims_c (i := 11) (s_iload_n hC dX7_helpsBy_17 rfl rfl) ?_
  refine aSims_c (i := 12) (s_iload hC dX7_helpsBy_18 rfl rfl) ?_
  refine aSims_c (i := 13) (s_callV (n := 4) hC dX7_helpsBy_20 rfl rfl (hE 198 _ _ _ _ rfl) (hF _ (by decide)) w_1337 w_1334 w_1336 w_92 w_109 rfl (by decide +kernel)) ?_
  refine aSims_c (i := 14) (s_iconst hC dX7_helpsBy_23 rfl rfl rfl) ?_
  refine aSims_c (i := 15) (s_icmp_ne hC dX7_helpsBy_24 rfl rfl rfl) ?_
  refine aSims_c (i := 16) (s_iconst hC dX7_helpsBy_27 rfl rfl rfl) ?_
  refine aSims_c (i := 17) (s_goto hC dX7_helpsBy_28 rfl rfl) ?_
  refine aSims_c (i := 18) (s_iconst hC dX7_helpsBy_31 rfl rfl rfl) ?_
  refine aSims_c (i := 19) (s_iload hC dX7_helpsBy_32 rfl rfl) ?_
  refine aSims_c (i := 20) (s_ishl hC dX7_helpsBy_34 rfl rfl) ?_
  refine aSims_c (i := 21) (s_ior hC dX7_helpsBy_35 rfl rfl) ?_
  refine aSims_c (i := 22) (s_istore hC dX7_helpsBy_36 rfl rfl) ?_
  refine aSims_c (i := 23) (s_iinc hC dX7_helpsBy_38 rfl rfl) ?_
  refine aSims_c (i := 24) (s_goto hC dX7_helpsBy_41 rfl rfl) ?_
  refine aSims_c (i := 25) (s_iload hC dX7_helpsBy_44 rfl rfl) ?_
  refine aSims_c (i := 26) (s_iret hC dX7_helpsBy_46 rfl hr hlk nar_qI) ?_
  exact aSims_n
set_option maxHeartbeats 4000000 in
set_option maxRecDepth 20000 in
theorem sm_X7_tells_0 (hC : aC p s m args c cX7_tells 15 RX7 D cA ad bs n0 H0 X) (hF : ∀ ml, ml ≤ 41 → aFit R d ml) (hRm : 16 ≤ R.frames ∧ 1000 ≤ R.locals) (hE : aCalls l D cA ad bs X d E) (hr : meth.sig.returnType = (some .int)) (hlk : meth.locks = false) : aSims (fun f i => aSim p l e R s m args below meth c (aEnd below s args D cA ad bs n0 z0 rv hf) 15 D cA ad bs n0 z0 H0 (apc pc_X7_tells) rv hf E f i) (cd_X7_tells_0) 0 := by
  unfold cd_X7_tells_0
  refine aSims_c (i := 0) (s_iload_n hC dX7_tells_0 rfl rfl) ?_
  refine aSims_c (i := 1) (s_callS hC dX7_tells_1 rfl rfl (hE 209 _ _ _ _ rfl) (hF _ (by decide)) w_1328 w_1326 w_1327 w_109 (by decide +kernel)) ?_
  refine aSims_c (i := 2) (s_if_eq hC dX7_tells_4 rfl rfl rfl) ?_
  refine aSims_c (i := 3) (s_aload_n hC dX7_tells_7 rfl rfl) ?_
  refine aSims_c (i := 4) (s_iload_n hC dX7_tells_8 rfl rfl) ?_
  refine aSims_c (i := 5) (s_callV (n := 1) hC dX7_tells_9 rfl rfl (hE 115 _ _ _ _ rfl) (hF _ (by decide)) w_988 w_985 w_987 w_30 w_109 rfl (by decide +kernel)) ?_
  refine aSims_c (i := 6) (s_if_eq hC dX7_tells_12 rfl rfl rfl) ?_
  refine aSims_c (i := 7) (s_iload_n hC dX7_tells_15 rfl rfl) ?_
  refine aSims_c (i := 8) (s_callS hC dX7_tells_16 rfl rfl (hE 199 _ _ _ _ rfl) (hF _ (by decide)) w_1331 w_1329 w_1330 w_109 (by decide +kernel)) ?_
  refine aSims_c (i := 9) (s_if_eq hC dX7_tells_19 rfl rfl rfl) ?_
  refine aSims_c (i := 10) (s_iload hC dX7_tells_22 rfl rfl) ?_
  refine aSims_c (i := 11) (s_i2l hC dX7_tells_24 rfl rfl) ?_
  refine aSims_c (i := 12) (s_lconst hC dX7_tells_25 rfl rfl rfl) ?_
  refine aSims_c (i := 13) (s_ldc2 hC dX7_tells_26 w_1333 rfl rfl) ?_
  refine aSims_c (i := 14) (s_callS hC dX7_tells_29 rfl rfl (hE 111 _ _ _ _ rfl) (hF _ (by decide)) w_974 w_972 w_973 w_109 (by decide +kernel)) ?_
  refine aSims_c (i := 15) (s_if_ne hC dX7_tells_32 rfl rfl rfl) ?_
  refine aSims_c (i := 16) (s_bipush hC dX7_tells_35 rfl rfl rfl) ?_
  refine aSims_c (i := 17) (s_iret hC dX7_tells_37 rfl hr hlk nar_qI) ?_
  refine aSims_c (i := 18) (s_aload_n hC dX7_tells_38 rfl rfl) ?_
  refine aSims_c (i := 19) (s_get hC dX7_tells_39 rfl rfl w_879 rfl rfl inB7 (by decide)) ?_
  refine aSims_c (i := 20) (s_iload_n hC dX7_tells_42 rfl rfl) ?_
  refine aSims_c (i := 21) (s_baload hC dX7_tells_43 rfl rfl) ?_
  refine aSims_c (i := 22) (s_if_ne hC dX7_tells_44 rfl rfl rfl) ?_
  refine aSims_c (i := 23) (s_bipush hC dX7_tells_47 rfl rfl rfl) ?_
  refine aSims_c (i := 24) (s_iret hC dX7_tells_49 rfl hr hlk nar_qI) ?_
  refine aSims_c (i := 25) (s_iload_n hC dX7_tells_50 rfl rfl) ?_
  refine aSims_c (i := 26) (s_bipush hC dX7_tells_51 rfl rfl rfl) ?_
  refine aSims_c (i := 27) (s_idiv hC dX7_tells_53 rfl rfl) ?_
  refine aSims_c (i := 28) (s_istore hC dX7_tells_54 rfl rfl) ?_
  refine aSims_c (i := 29) (s_iload_n hC dX7_tells_56 rfl rfl) ?_
  refine aSims_c (i := 30) (s_bipush hC dX7_tells_57 rfl rfl rfl) ?_
  refine aSims_c (i := 31) (s_irem hC dX7_tells_59 rfl rfl) ?_
  refine aSims_c (i := 32) (s_istore hC dX7_tells_60 rfl rfl) ?_
  refine aSims_c (i := 33) (s_iload hC dX7_tells_62 rfl rfl) ?_
  refine aSims_c (i := 34) (s_if_ne hC dX7_tells_64 rfl rfl rfl) ?_
  refine aSims_c (i := 35) (s_aload_n hC dX7_tells_67 rfl rfl) ?_
  refine aSims_c (i := 36) (s_iload_n hC dX7_tells_68 rfl rfl) ?_
  refine aSims_c (i := 37) (s_iload_n hC dX7_tells_69 rfl rfl) ?_
  refine aSims_c (i := 38) (s_iload hC dX7_tells_70 rfl rfl) ?_
  refine aSims_c (i := 39) (s_iload hC dX7_tells_72 rfl rfl) ?_
  refine aSims_c (i := 40) (s_callV (n := 4) hC dX7_tells_74 rfl rfl (hE 198 _ _ _ _ rfl) (hF _ (by decide)) w_1337 w_1334 w_1336 w_92 w_109 rfl (by decide +kernel)) ?_
  refine aSims_c (i := 41) (s_iret hC dX7_tells_77 rfl hr hlk nar_qI) ?_
  refine aSims_c (i := 42) (s_iload hC dX7_tells_78 rfl rfl) ?_
  refine aSims_c (i := 43) (s_iconst hC dX7_tells_80 rfl rfl rfl) ?_
  refine aSims_c (i := 44) (s_icmp_ne hC dX7_tells_81 rfl rfl rfl) ?_
  refine aSims_c (i := 45) (s_aload_n hC dX7_tells_84 rfl rfl) ?_
  refine aSims_c (i := 46) (s_iload_n hC dX7_tells_85 rfl rfl) ?_
  refine aSims_c (i := 47) (s_iload_n hC dX7_tells_86 rfl rfl) ?_
  refine aSims_c (i := 48) (s_iload hC dX7_tells_87 rfl rfl) ?_
  refine aSims_c (i := 49) (s_callV (n := 3) hC dX7_tells_89 rfl rfl (hE 200 _ _ _ _ rfl) (hF _ (by decide)) w_1341 w_1338 w_1340 w_93 w_109 rfl (by decide +kernel)) ?_
  refine aSims_c (i := 50) (s_iret hC dX7_tells_92 rfl hr hlk nar_qI) ?_
  refine aSims_c (i := 51) (s_iload hC dX7_tells_93 rfl rfl) ?_
  refine aSims_c (i := 52) (s_iconst hC dX7_tells_95 rfl rfl rfl) ?_
  refine aSims_c (i := 53) (s_icmp_ne hC dX7_tells_96 rfl rfl rfl) ?_
  refine aSims_c (i := 54) (s_iconst hC dX7_tells_99 rfl rfl rfl) ?_
  refine aSims_c (i := 55) (s_goto hC dX7_tells_100 rfl rfl) ?_
  refine aSims_c (i := 56) (s_iload hC dX7_tells_103 rfl rfl) ?_
  refine aSims_c (i := 57) (s_iconst hC dX7_tells_105 rfl rfl rfl) ?_
  refine aSims_c (i := 58) (s_icmp_ne hC dX7_tells_106 rfl rfl rfl) ?_
  refine aSims_c (i := 59) (s_iconst hC dX7_tells_109 rfl rfl rfl) ?_
  refine aSims_c (i := 60) (s_goto hC dX7_tells_110 rfl rfl) ?_
  refine aSims_c (i := 61) (s_iload hC dX7_tells_113 rfl rfl) ?_
  refine aSims_c (i := 62) (s_bipush hC dX7_tells_115 rfl rfl rfl) ?_
  refine aSims_c (i := 63) (s_icmp_ge hC dX7_tells_117 rfl rfl rfl) ?_
  refine aSims_c (i := 64) (s_bipush hC dX7_tells_120 rfl rfl rfl) ?_
  refine aSims_c (i := 65) (s_iload hC dX7_tells_122 rfl rfl) ?_
  refine aSims_c (i := 66) (s_iadd hC dX7_tells_124 rfl rfl) ?_
  refine aSims_c (i := 67) (s_goto hC dX7_tells_125 rfl rfl) ?_
  refine aSims_c (i := 68) (s_iload hC dX7_tells_128 rfl rfl) ?_
  refine aSims_c (i := 69) (s_bipush hC dX7_tells_130 rfl rfl rfl) ?_
  refine aSims_c (i := 70) (s_icmp_ge hC dX7_tells_132 rfl rfl rfl) ?_
  refine aSims_c (i := 71) (s_iconst hC dX7_tells_135 rfl rfl rfl) ?_
  refine aSims_c (i := 72) (s_goto hC dX7_tells_136 rfl rfl) ?_
  refine aSims_c (i := 73) (s_bipush hC dX7_tells_139 rfl rfl rfl) ?_
  refine aSims_c (i := 74) (s_istore hC dX7_tells_141 rfl rfl) ?_
  refine aSims_c (i := 75) (s_iload hC dX7_tells_143 rfl rfl) ?_
  refine aSims_c (i := 76) (s_iconst hC dX7_tells_145 rfl rfl rfl) ?_
  refine aSims_c (i := 77) (s_icmp_ne hC dX7_tells_146 rfl rfl rfl) ?_
  refine aSims_c (i := 78) (s_iload hC dX7_tells_149 rfl rfl) ?_
  refine aSims_c (i := 79) (s_goto hC dX7_tells_151 rfl rfl) ?_
  refine aSims_c (i := 80) (s_iload_n hC dX7_tells_154 rfl rfl) ?_
  refine aSims_c (i := 81) (s_istore hC dX7_tells_155 rfl rfl) ?_
  refine aSims_c (i := 82) (s_iload hC dX7_tells_157 rfl rfl) ?_
  refine aSims_c (i := 83) (s_bipush hC dX7_tells_159 rfl rfl rfl) ?_
  refine aSims_c (i := 84) (s_icmp_ne hC dX7_tells_161 rfl rfl rfl) ?_
  refine aSims_c (i := 85) (s_aload_n hC dX7_tells_164 rfl rfl) ?_
  refine aSims_c (i := 86) (s_get hC dX7_tells_165 rfl rfl w_846 rfl rfl inB7 (by decide)) ?_
  refine aSims_c (i := 87) (s_goto hC dX7_tells_168 rfl rfl) ?_
  refine aSims_c (i := 88) (s_aload_n hC dX7_tells_171 rfl rfl) ?_
  refine aSims_c (i := 89) (s_iload hC dX7_tells_172 rfl rfl) ?_
  refine aSims_c (i := 90) (s_iload hC dX7_tells_174 rfl rfl) ?_
  refine aSims_c (i := 91) (s_callV (n := 2) hC dX7_tells_176 rfl rfl (hE 123 _ _ _ _ rfl) (hF _ (by decide)) w_995 w_992 w_993 w_994 w_109 rfl (by decide +kernel)) ?_
  refine aSims_c (i := 92) (s_istore hC dX7_tells_179 rfl rfl) ?_
  refine aSims_c (i := 93) (s_iload hC dX7_tells_181 rfl rfl) ?_
  refine aSims_c (i := 94) (s_bipush hC dX7_tells_183 rfl rfl rfl) ?_
  refine aSims_c (i := 95) (s_icmp_ne hC dX7_tells_185 rfl rfl rfl) ?_
  refine aSims_c (i := 96) (s_aload_n hC dX7_tells_188 rfl rfl) ?_
  refine aSims_c (i := 97) (s_get hC dX7_tells_189 rfl rfl w_845 rfl rfl inB7 (by decide)) ?_
  refine aSims_c (i := 98) (s_iconst hC dX7_tells_192 rfl rfl rfl) ?_
  refine aSims_c (i := 99) (s_isub hC dX7_tells_193 rfl rfl) ?_
  exact aSims_n
set_option maxHeartbeats 4000000 in
set_option maxRecDepth 20000 in
theorem sm_X7_tells_1 (hC : aC p s m args c cX7_tells 15 RX7 D cA ad bs n0 H0 X) (hF : ∀ ml, ml ≤ 41 → aFit R d ml) (hRm : 16 ≤ R.frames ∧ 1000 ≤ R.locals) (hE : aCalls l D cA ad bs X d E) (hr : meth.sig.returnType = (some .int)) (hlk : meth.locks = false) : aSims (fun f i => aSim p l e R s m args below meth c (aEnd below s args D cA ad bs n0 z0 rv hf) 15 D cA ad bs n0 z0 H0 (apc pc_X7_tells) rv hf E f i) (cd_X7_tells_1) 100 := by
  unfold cd_X7_tells_1
  refine aSims_c (i := 100) (s_goto hC dX7_tells_194 rfl rfl) ?_
  refine aSims_c (i := 101) (s_iload hC dX7_tells_197 rfl rfl) ?_
  refine aSims_c (i := 102) (s_iconst hC dX7_tells_199 rfl rfl rfl) ?_
  refine aSims_c (i := 103) (s_icmp_ne hC dX7_tells_200 rfl rfl rfl) ?_
  refine aSims_c (i := 104) (s_iconst hC dX7_tells_203 rfl rfl rfl) ?_
  refine aSims_c (i := 105) (s_goto hC dX7_tells_204 rfl rfl) ?_
  refine aSims_c (i := 106) (s_iload hC dX7_tells_207 rfl rfl) ?_
  refine aSims_c (i := 107) (s_callS hC dX7_tells_209 rfl rfl (hE 118 _ _ _ _ rfl) (hF _ (by decide)) w_991 w_989 w_990 w_109 (by decide +kernel)) ?_
  refine aSims_c (i := 108) (s_istore hC dX7_tells_212 rfl rfl) ?_
  refine aSims_c (i := 109) (s_iconst hC dX7_tells_214 rfl rfl rfl) ?_
  refine aSims_c (i := 110) (s_istore hC dX7_tells_215 rfl rfl) ?_
  refine aSims_c (i := 111) (s_iconst hC dX7_tells_217 rfl rfl rfl) ?_
  refine aSims_c (i := 112) (s_istore hC dX7_tells_218 rfl rfl) ?_
  refine aSims_c (i := 113) (s_iconst hC dX7_tells_220 rfl rfl rfl) ?_
  refine aSims_c (i := 114) (s_istore hC dX7_tells_221 rfl rfl) ?_
  refine aSims_c (i := 115) (s_iload hC dX7_tells_223 rfl rfl) ?_
  refine aSims_c (i := 116) (s_istore hC dX7_tells_225 rfl rfl) ?_
  refine aSims_c (i := 117) (s_iload hC dX7_tells_227 rfl rfl) ?_
  refine aSims_c (i := 118) (s_if_lt hC dX7_tells_229 rfl rfl rfl) ?_
  refine aSims_c (i := 119) (s_aload_n hC dX7_tells_232 rfl rfl) ?_
  refine aSims_c (i := 120) (s_iload hC dX7_tells_233 rfl rfl) ?_
  refine aSims_c (i := 121) (s_iload hC dX7_tells_235 rfl rfl) ?_
  refine aSims_c (i := 122) (s_iload hC dX7_tells_237 rfl rfl) ?_
  refine aSims_c (i := 123) (s_callV (n := 3) hC dX7_tells_239 rfl rfl (hE 121 _ _ _ _ rfl) (hF _ (by decide)) w_1217 w_1214 w_1216 w_82 w_109 rfl (by decide +kernel)) ?_
  refine aSims_c (i := 124) (s_aload_n hC dX7_tells_242 rfl rfl) ?_
  refine aSims_c (i := 125) (s_iload_n hC dX7_tells_243 rfl rfl) ?_
  refine aSims_c (i := 126) (s_iload_n hC dX7_tells_244 rfl rfl) ?_
  refine aSims_c (i := 127) (s_iload hC dX7_tells_245 rfl rfl) ?_
  refine aSims_c (i := 128) (s_iload hC dX7_tells_247 rfl rfl) ?_
  refine aSims_c (i := 129) (s_callV (n := 4) hC dX7_tells_249 rfl rfl (hE 198 _ _ _ _ rfl) (hF _ (by decide)) w_1337 w_1334 w_1336 w_92 w_109 rfl (by decide +kernel)) ?_
  refine aSims_c (i := 130) (s_iconst hC dX7_tells_252 rfl rfl rfl) ?_
  refine aSims_c (i := 131) (s_icmp_ne hC dX7_tells_253 rfl rfl rfl) ?_
  refine aSims_c (i := 132) (s_iload hC dX7_tells_256 rfl rfl) ?_
  refine aSims_c (i := 133) (s_iload hC dX7_tells_258 rfl rfl) ?_
  refine aSims_c (i := 134) (s_bipush hC dX7_tells_260 rfl rfl rfl) ?_
  refine aSims_c (i := 135) (s_icmp_ge hC dX7_tells_262 rfl rfl rfl) ?_
  refine aSims_c (i := 136) (s_iconst hC dX7_tells_265 rfl rfl rfl) ?_
  refine aSims_c (i := 137) (s_iload hC dX7_tells_266 rfl rfl) ?_
  refine aSims_c (i := 138) (s_ishl hC dX7_tells_268 rfl rfl) ?_
  refine aSims_c (i := 139) (s_goto hC dX7_tells_269 rfl rfl) ?_
  refine aSims_c (i := 140) (s_iconst hC dX7_tells_272 rfl rfl rfl) ?_
  refine aSims_c (i := 141) (s_ior hC dX7_tells_273 rfl rfl) ?_
  refine aSims_c (i := 142) (s_istore hC dX7_tells_274 rfl rfl) ?_
  refine aSims_c (i := 143) (s_iinc hC dX7_tells_276 rfl rfl) ?_
  refine aSims_c (i := 144) (s_iload hC dX7_tells_279 rfl rfl) ?_
  refine aSims_c (i := 145) (s_istore hC dX7_tells_281 rfl rfl) ?_
  refine aSims_c (i := 146) (s_iinc hC dX7_tells_283 rfl rfl) ?_
  refine aSims_c (i := 147) (s_goto hC dX7_tells_286 rfl rfl) ?_
  refine aSims_c (i := 148) (s_aload_n hC dX7_tells_289 rfl rfl) ?_
  refine aSims_c (i := 149) (s_iload hC dX7_tells_290 rfl rfl) ?_
  refine aSims_c (i := 150) (s_iload hC dX7_tells_292 rfl rfl) ?_
  refine aSims_c (i := 151) (s_iload hC dX7_tells_294 rfl rfl) ?_
  refine aSims_c (i := 152) (s_callV (n := 3) hC dX7_tells_296 rfl rfl (hE 121 _ _ _ _ rfl) (hF _ (by decide)) w_1217 w_1214 w_1216 w_82 w_109 rfl (by decide +kernel)) ?_
  refine aSims_c (i := 153) (s_iload hC dX7_tells_299 rfl rfl) ?_
  refine aSims_c (i := 154) (s_iconst hC dX7_tells_301 rfl rfl rfl) ?_
  refine aSims_c (i := 155) (s_icmp_eq hC dX7_tells_302 rfl rfl rfl) ?_
  refine aSims_c (i := 156) (s_iload hC dX7_tells_305 rfl rfl) ?_
  refine aSims_c (i := 157) (s_bipush hC dX7_tells_307 rfl rfl rfl) ?_
  refine aSims_c (i := 158) (s_icmp_ne hC dX7_tells_309 rfl rfl rfl) ?_
  refine aSims_c (i := 159) (s_iload hC dX7_tells_312 rfl rfl) ?_
  refine aSims_c (i := 160) (s_goto hC dX7_tells_314 rfl rfl) ?_
  refine aSims_c (i := 161) (s_iload hC dX7_tells_317 rfl rfl) ?_
  refine aSims_c (i := 162) (s_iconst hC dX7_tells_319 rfl rfl rfl) ?_
  refine aSims_c (i := 163) (s_icmp_eq hC dX7_tells_320 rfl rfl rfl) ?_
  refine aSims_c (i := 164) (s_iload hC dX7_tells_323 rfl rfl) ?_
  refine aSims_c (i := 165) (s_bipush hC dX7_tells_325 rfl rfl rfl) ?_
  refine aSims_c (i := 166) (s_icmp_ne hC dX7_tells_327 rfl rfl rfl) ?_
  refine aSims_c (i := 167) (s_iload hC dX7_tells_330 rfl rfl) ?_
  refine aSims_c (i := 168) (s_goto hC dX7_tells_332 rfl rfl) ?_
  refine aSims_c (i := 169) (s_iload hC dX7_tells_335 rfl rfl) ?_
  refine aSims_c (i := 170) (s_iret hC dX7_tells_337 rfl hr hlk nar_qI) ?_
  exact aSims_n
theorem sm_X7_tells (hC : aC p s m args c cX7_tells 15 RX7 D cA ad bs n0 H0 X) (hF : ∀ ml, ml ≤ 41 → aFit R d ml) (hRm : 16 ≤ R.frames ∧ 1000 ≤ R.locals) (hE : aCalls l D cA ad bs X d E) (hr : meth.sig.returnType = (some .int)) (hlk : meth.locks = false) : aSims (fun f i => aSim p l e R s m args below meth c (aEnd below s args D cA ad bs n0 z0 rv hf) 15 D cA ad bs n0 z0 H0 (apc pc_X7_tells) rv hf E f i) cd_X7_tells 0 := aSims_a (sm_X7_tells_0 hC hF hRm hE hr hlk) (sm_X7_tells_1 hC hF hRm hE hr hlk)
set_option maxHeartbeats 4000000 in
set_option maxRecDepth 20000 in
theorem sm_X7_film (hC : aC p s m args c cX7_film 6 RX7 D cA ad bs n0 H0 X) (hF : ∀ ml, ml ≤ 41 → aFit R d ml) (hRm : 16 ≤ R.frames ∧ 1000 ≤ R.locals) (hE : aCalls l D cA ad bs X d E) (hr : meth.sig.returnType = (some .int)) (hlk : meth.locks = false) : aSims (fun f i => aSim p l e R s m args below meth c (aEnd below s args D cA ad bs n0 z0 rv hf) 6 D cA ad bs n0 z0 H0 (apc pc_X7_film) rv hf E f i) (cd_X7_film) 0 := by
  unfold cd_X7_film
  refine aSims_c (i := 0) (s_iload_n hC dX7_film_0 rfl rfl) ?_
  refine aSims_c (i := 1) (s_callS hC dX7_film_1 rfl rfl (hE 209 _ _ _ _ rfl) (hF _ (by decide)) w_1328 w_1326 w_1327 w_109 (by decide +kernel)) ?_
  refine aSims_c (i := 2) (s_if_eq hC dX7_film_4 rfl rfl rfl) ?_
  refine aSims_c (i := 3) (s_aload_n hC dX7_film_7 rfl rfl) ?_
  refine aSims_c (i := 4) (s_iload_n hC dX7_film_8 rfl rfl) ?_
  refine aSims_c (i := 5) (s_callV (n := 1) hC dX7_film_9 rfl rfl (hE 115 _ _ _ _ rfl) (hF _ (by decide)) w_988 w_985 w_987 w_30 w_109 rfl (by decide +kernel)) ?_
  refine aSims_c (i := 6) (s_if_eq hC dX7_film_12 rfl rfl rfl) ?_
  refine aSims_c (i := 7) (s_iload_n hC dX7_film_15 rfl rfl) ?_
  refine aSims_c (i := 8) (s_callS hC dX7_film_16 rfl rfl (hE 199 _ _ _ _ rfl) (hF _ (by decide)) w_1331 w_1329 w_1330 w_109 (by decide +kernel)) ?_
  refine aSims_c (i := 9) (s_if_eq hC dX7_film_19 rfl rfl rfl) ?_
  refine aSims_c (i := 10) (s_iload hC dX7_film_22 rfl rfl) ?_
  refine aSims_c (i := 11) (s_i2l hC dX7_film_24 rfl rfl) ?_
  refine aSims_c (i := 12) (s_lconst hC dX7_film_25 rfl rfl rfl) ?_
  refine aSims_c (i := 13) (s_ldc2 hC dX7_film_26 w_1312 rfl rfl) ?_
  refine aSims_c (i := 14) (s_callS hC dX7_film_29 rfl rfl (hE 111 _ _ _ _ rfl) (hF _ (by decide)) w_974 w_972 w_973 w_109 (by decide +kernel)) ?_
  refine aSims_c (i := 15) (s_if_ne hC dX7_film_32 rfl rfl rfl) ?_
  refine aSims_c (i := 16) (s_bipush hC dX7_film_35 rfl rfl rfl) ?_
  refine aSims_c (i := 17) (s_iret hC dX7_film_37 rfl hr hlk nar_qI) ?_
  refine aSims_c (i := 18) (s_aload_n hC dX7_film_38 rfl rfl) ?_
  refine aSims_c (i := 19) (s_iload_n hC dX7_film_39 rfl rfl) ?_
  refine aSims_c (i := 20) (s_iconst hC dX7_film_40 rfl rfl rfl) ?_
  refine aSims_c (i := 21) (s_iload hC dX7_film_41 rfl rfl) ?_
  refine aSims_c (i := 22) (s_callV (n := 3) hC dX7_film_43 rfl rfl (hE 210 _ _ _ _ rfl) (hF _ (by decide)) w_1349 w_1346 w_1347 w_1348 w_109 rfl (by decide +kernel)) ?_
  refine aSims_c (i := 23) (s_pop hC dX7_film_46 rfl rfl) ?_
  refine aSims_c (i := 24) (s_aload_n hC dX7_film_47 rfl rfl) ?_
  refine aSims_c (i := 25) (s_iload_n hC dX7_film_48 rfl rfl) ?_
  refine aSims_c (i := 26) (s_callV (n := 1) hC dX7_film_49 rfl rfl (hE 186 _ _ _ _ rfl) (hF _ (by decide)) w_1278 w_1275 w_1277 w_88 w_109 rfl (by decide +kernel)) ?_
  refine aSims_c (i := 27) (s_iconst hC dX7_film_52 rfl rfl rfl) ?_
  refine aSims_c (i := 28) (s_istore hC dX7_film_53 rfl rfl) ?_
  refine aSims_c (i := 29) (s_iload hC dX7_film_55 rfl rfl) ?_
  refine aSims_c (i := 30) (s_iload hC dX7_film_57 rfl rfl) ?_
  refine aSims_c (i := 31) (s_icmp_ge hC dX7_film_59 rfl rfl rfl) ?_
  refine aSims_c (i := 32) (s_aload_n hC dX7_film_62 rfl rfl) ?_
  refine aSims_c (i := 33) (s_iload_n hC dX7_film_63 rfl rfl) ?_
  refine aSims_c (i := 34) (s_iload_n hC dX7_film_64 rfl rfl) ?_
  refine aSims_c (i := 35) (s_bipush hC dX7_film_65 rfl rfl rfl) ?_
  refine aSims_c (i := 36) (s_idiv hC dX7_film_67 rfl rfl) ?_
  refine aSims_c (i := 37) (s_iload_n hC dX7_film_68 rfl rfl) ?_
  refine aSims_c (i := 38) (s_bipush hC dX7_film_69 rfl rfl rfl) ?_
  refine aSims_c (i := 39) (s_irem hC dX7_film_71 rfl rfl) ?_
  refine aSims_c (i := 40) (s_callV (n := 3) hC dX7_film_72 rfl rfl (hE 181 _ _ _ _ rfl) (hF _ (by decide)) w_1258 w_1255 w_1257 w_85 w_109 rfl (by decide +kernel)) ?_
  refine aSims_c (i := 41) (s_aload_n hC dX7_film_75 rfl rfl) ?_
  refine aSims_c (i := 42) (s_get hC dX7_film_76 rfl rfl w_882 rfl rfl inB7 (by decide)) ?_
  refine aSims_c (i := 43) (s_bipush hC dX7_film_79 rfl rfl rfl) ?_
  refine aSims_c (i := 44) (s_iload_n hC dX7_film_81 rfl rfl) ?_
  refine aSims_c (i := 45) (s_imul hC dX7_film_82 rfl rfl) ?_
  refine aSims_c (i := 46) (s_iload hC dX7_film_83 rfl rfl) ?_
  refine aSims_c (i := 47) (s_iadd hC dX7_film_85 rfl rfl) ?_
  refine aSims_c (i := 48) (s_aload_n hC dX7_film_86 rfl rfl) ?_
  refine aSims_c (i := 49) (s_get hC dX7_film_87 rfl rfl w_853 rfl rfl inB7 (by decide)) ?_
  refine aSims_c (i := 50) (s_iload_n hC dX7_film_90 rfl rfl) ?_
  refine aSims_c (i := 51) (s_iload_n hC dX7_film_91 rfl rfl) ?_
  refine aSims_c (i := 52) (s_bipush hC dX7_film_92 rfl rfl rfl) ?_
  refine aSims_c (i := 53) (s_idiv hC dX7_film_94 rfl rfl) ?_
  refine aSims_c (i := 54) (s_callS hC dX7_film_95 rfl rfl (hE 117 _ _ _ _ rfl) (hF _ (by decide)) w_1000 w_998 w_999 w_109 (by decide +kernel)) ?_
  refine aSims_c (i := 55) (s_iaload hC hX0 dX7_film_98 rfl rfl) ?_
  refine aSims_c (i := 56) (s_iastore hC dX7_film_99 rfl rfl) ?_
  refine aSims_c (i := 57) (s_iinc hC dX7_film_100 rfl rfl) ?_
  refine aSims_c (i := 58) (s_goto hC dX7_film_103 rfl rfl) ?_
  refine aSims_c (i := 59) (s_aload_n hC dX7_film_106 rfl rfl) ?_
  refine aSims_c (i := 60) (s_iload_n hC dX7_film_107 rfl rfl) ?_
  refine aSims_c (i := 61) (s_callV (n := 1) hC dX7_film_108 rfl rfl (hE 187 _ _ _ _ rfl) (hF _ (by decide)) w_1286 w_1283 w_1285 w_90 w_109 rfl (by decide +kernel)) ?_
  refine aSims_c (i := 62) (s_iload hC dX7_film_111 rfl rfl) ?_
  refine aSims_c (i := 63) (s_iret hC dX7_film_113 rfl hr hlk nar_qI) ?_
  exact aSims_n
set_option maxHeartbeats 4000000 in
set_option maxRecDepth 20000 in
theorem sm_X7_passes (hC : aC p s m args c cX7_passes 6 RX7 D cA ad bs n0 H0 X) (hF : ∀ ml, ml ≤ 41 → aFit R d ml) (hRm : 16 ≤ R.frames ∧ 1000 ≤ R.locals) (hE : aCalls l D cA ad bs X d E) (hr : meth.sig.returnType = (some .int)) (hlk : meth.locks = false) : aSims (fun f i => aSim p l e R s m args below meth c (aEnd below s args D cA ad bs n0 z0 rv hf) 6 D cA ad bs n0 z0 H0 (apc pc_X7_passes) rv hf E f i) (cd_X7_passes) 0 := by
  unfold cd_X7_passes
  refine aSims_c (i := 0) (s_iload_n hC dX7_passes_0 rfl rfl) ?_
  refine aSims_c (i := 1) (s_istore_n hC dX7_passes_1 rfl rfl) ?_
  refine aSims_c (i := 2) (s_iconst hC dX7_passes_2 rfl rfl rfl) ?_
  refine aSims_c (i := 3) (s_istore hC dX7_passes_3 rfl rfl) ?_
  refine aSims_c (i := 4) (s_iload hC dX7_passes_5 rfl rfl) ?_
  refine aSims_c (i := 5) (s_iconst hC dX7_passes_7 rfl rfl rfl) ?_
  refine aSims_c (i := 6) (s_icmp_ge hC dX7_passes_8 rfl rfl rfl) ?_
  refine aSims_c (i := 7) (s_iload_n hC dX7_passes_11 rfl rfl) ?_
  refine aSims_c (i := 8) (s_ldcw hC dX7_passes_12 w_1359 rfl rfl) ?_
  refine aSims_c (i := 9) (s_imul hC dX7_passes_15 rfl rfl) ?_
  refine aSims_c (i := 10) (s_sipush hC dX7_passes_16 rfl rfl rfl) ?_
  refine aSims_c (i := 11) (s_iadd hC dX7_passes_19 rfl rfl) ?_
  refine aSims_c (i := 12) (s_istore_n hC dX7_passes_20 rfl rfl) ?_
  refine aSims_c (i := 13) (s_aload_n hC dX7_passes_21 rfl rfl) ?_
  refine aSims_c (i := 14) (s_get hC dX7_passes_22 rfl rfl w_872 rfl rfl inB7 (by decide)) ?_
  refine aSims_c (i := 15) (s_iload hC dX7_passes_25 rfl rfl) ?_
  refine aSims_c (i := 16) (s_iload_n hC dX7_passes_27 rfl rfl) ?_
  refine aSims_c (i := 17) (s_bipush hC dX7_passes_28 rfl rfl rfl) ?_
  refine aSims_c (i := 18) (s_iushr hC dX7_passes_30 rfl rfl) ?_
  refine aSims_c (i := 19) (s_bipush hC dX7_passes_31 rfl rfl rfl) ?_
  refine aSims_c (i := 20) (s_irem hC dX7_passes_33 rfl rfl) ?_
  refine aSims_c (i := 21) (s_iastore hC dX7_passes_34 rfl rfl) ?_
  refine aSims_c (i := 22) (s_iinc hC dX7_passes_35 rfl rfl) ?_
  refine aSims_c (i := 23) (s_goto hC dX7_passes_38 rfl rfl) ?_
  refine aSims_c (i := 24) (s_iconst hC dX7_passes_41 rfl rfl rfl) ?_
  refine aSims_c (i := 25) (s_istore hC dX7_passes_42 rfl rfl) ?_
  refine aSims_c (i := 26) (s_iconst hC dX7_passes_44 rfl rfl rfl) ?_
  refine aSims_c (i := 27) (s_istore hC dX7_passes_45 rfl rfl) ?_
  refine aSims_c (i := 28) (s_iload hC dX7_passes_47 rfl rfl) ?_
  refine aSims_c (i := 29) (s_iconst hC dX7_passes_49 rfl rfl rfl) ?_
  refine aSims_c (i := 30) (s_icmp_ge hC dX7_passes_50 rfl rfl rfl) ?_
  refine aSims_c (i := 31) (s_iload_n hC dX7_passes_53 rfl rfl) ?_
  refine aSims_c (i := 32) (s_ldcw hC dX7_passes_54 w_1359 rfl rfl) ?_
  refine aSims_c (i := 33) (s_imul hC dX7_passes_57 rfl rfl) ?_
  refine aSims_c (i := 34) (s_sipush hC dX7_passes_58 rfl rfl rfl) ?_
  refine aSims_c (i := 35) (s_iadd hC dX7_passes_61 rfl rfl) ?_
  refine aSims_c (i := 36) (s_istore_n hC dX7_passes_62 rfl rfl) ?_
  refine aSims_c (i := 37) (s_iload hC dX7_passes_63 rfl rfl) ?_
  refine aSims_c (i := 38) (s_iload_n hC dX7_passes_65 rfl rfl) ?_
  refine aSims_c (i := 39) (s_bipush hC dX7_passes_66 rfl rfl rfl) ?_
  refine aSims_c (i := 40) (s_iushr hC dX7_passes_68 rfl rfl) ?_
  refine aSims_c (i := 41) (s_bipush hC dX7_passes_69 rfl rfl rfl) ?_
  refine aSims_c (i := 42) (s_irem hC dX7_passes_71 rfl rfl) ?_
  refine aSims_c (i := 43) (s_aload_n hC dX7_passes_72 rfl rfl) ?_
  refine aSims_c (i := 44) (s_get hC dX7_passes_73 rfl rfl w_853 rfl rfl inB7 (by decide)) ?_
  refine aSims_c (i := 45) (s_iload_n hC dX7_passes_76 rfl rfl) ?_
  refine aSims_c (i := 46) (s_aload_n hC dX7_passes_77 rfl rfl) ?_
  refine aSims_c (i := 47) (s_get hC dX7_passes_78 rfl rfl w_872 rfl rfl inB7 (by decide)) ?_
  refine aSims_c (i := 48) (s_iload hC dX7_passes_81 rfl rfl) ?_
  refine aSims_c (i := 49) (s_iaload hC hX0 dX7_passes_83 rfl rfl) ?_
  refine aSims_c (i := 50) (s_callS hC dX7_passes_84 rfl rfl (hE 117 _ _ _ _ rfl) (hF _ (by decide)) w_1000 w_998 w_999 w_109 (by decide +kernel)) ?_
  refine aSims_c (i := 51) (s_iaload hC hX0 dX7_passes_87 rfl rfl) ?_
  refine aSims_c (i := 52) (s_icmp_ge hC dX7_passes_88 rfl rfl rfl) ?_
  refine aSims_c (i := 53) (s_iconst hC dX7_passes_91 rfl rfl rfl) ?_
  refine aSims_c (i := 54) (s_goto hC dX7_passes_92 rfl rfl) ?_
  refine aSims_c (i := 55) (s_iconst hC dX7_passes_95 rfl rfl rfl) ?_
  refine aSims_c (i := 56) (s_iadd hC dX7_passes_96 rfl rfl) ?_
  refine aSims_c (i := 57) (s_istore hC dX7_passes_97 rfl rfl) ?_
  refine aSims_c (i := 58) (s_iinc hC dX7_passes_99 rfl rfl) ?_
  refine aSims_c (i := 59) (s_goto hC dX7_passes_102 rfl rfl) ?_
  refine aSims_c (i := 60) (s_iload hC dX7_passes_105 rfl rfl) ?_
  refine aSims_c (i := 61) (s_iret hC dX7_passes_107 rfl hr hlk nar_qI) ?_
  exact aSims_n
set_option maxHeartbeats 4000000 in
set_option maxRecDepth 20000 in
theorem sm_X7_drawn (hC : aC p s m args c cX7_drawn 3 RX7 D cA ad bs n0 H0 X) (hF : ∀ ml, ml ≤ 41 → aFit R d ml) (hRm : 16 ≤ R.frames ∧ 1000 ≤ R.locals) (hE : aCalls l D cA ad bs X d E) (hr : meth.sig.returnType = (some .int)) (hlk : meth.locks = false) : aSims (fun f i => aSim p l e R s m args below meth c (aEnd below s args D cA ad bs n0 z0 rv hf) 3 D cA ad bs n0 z0 H0 (apc pc_X7_drawn) rv hf E f i) (cd_X7_drawn) 0 := by
  unfold cd_X7_drawn
  refine aSims_c (i := 0) (s_aload_n hC dX7_drawn_0 rfl rfl) ?_
  refine aSims_c (i := 1) (s_iload_n hC dX7_drawn_1 rfl rfl) ?_
  refine aSims_c (i := 2) (s_callV (n := 1) hC dX7_drawn_2 rfl rfl (hE 115 _ _ _ _ rfl) (hF _ (by decide)) w_988 w_985 w_987 w_30 w_109 rfl (by decide +kernel)) ?_
  refine aSims_c (i := 3) (s_if_eq hC dX7_drawn_5 rfl rfl rfl) ?_
  refine aSims_c (i := 4) (s_aload_n hC dX7_drawn_8 rfl rfl) ?_
  refine aSims_c (i := 5) (s_iload_n hC dX7_drawn_9 rfl rfl) ?_
  refine aSims_c (i := 6) (s_iload_n hC dX7_drawn_10 rfl rfl) ?_
  refine aSims_c (i := 7) (s_callV (n := 2) hC dX7_drawn_11 rfl rfl (hE 203 _ _ _ _ rfl) (hF _ (by decide)) w_1358 w_1355 w_1357 w_94 w_109 rfl (by decide +kernel)) ?_
  refine aSims_c (i := 8) (s_goto hC dX7_drawn_14 rfl rfl) ?_
  refine aSims_c (i := 9) (s_bipush hC dX7_drawn_17 rfl rfl rfl) ?_
  refine aSims_c (i := 10) (s_iret hC dX7_drawn_19 rfl hr hlk nar_qI) ?_
  exact aSims_n
set_option maxHeartbeats 4000000 in
set_option maxRecDepth 20000 in
theorem sm_X7_chance (hC : aC p s m args c cX7_chance 8 RX7 D cA ad bs n0 H0 X) (hF : ∀ ml, ml ≤ 41 → aFit R d ml) (hRm : 16 ≤ R.frames ∧ 1000 ≤ R.locals) (hE : aCalls l D cA ad bs X d E) (hr : meth.sig.returnType = (some .long)) (hlk : meth.locks = false) : aSims (fun f i => aSim p l e R s m args below meth c (aEnd below s args D cA ad bs n0 z0 rv hf) 8 D cA ad bs n0 z0 H0 (apc pc_X7_chance) rv hf E f i) (cd_X7_chance) 0 := by
  unfold cd_X7_chance
  refine aSims_c (i := 0) (s_aload_n hC dX7_chance_0 rfl rfl) ?_
  refine aSims_c (i := 1) (s_iload_n hC dX7_chance_1 rfl rfl) ?_
  refine aSims_c (i := 2) (s_callV (n := 1) hC dX7_chance_2 rfl rfl (hE 115 _ _ _ _ rfl) (hF _ (by decide)) w_988 w_985 w_987 w_30 w_109 rfl (by decide +kernel)) ?_
  refine aSims_c (i := 3) (s_if_eq hC dX7_chance_5 rfl rfl rfl) ?_
  refine aSims_c (i := 4) (s_iload_n hC dX7_chance_8 rfl rfl) ?_
  refine aSims_c (i := 5) (s_i2l hC dX7_chance_9 rfl rfl) ?_
  refine aSims_c (i := 6) (s_lconst hC dX7_chance_10 rfl rfl rfl) ?_
  refine aSims_c (i := 7) (s_ldc2 hC dX7_chance_11 w_996 rfl rfl) ?_
  refine aSims_c (i := 8) (s_callS hC dX7_chance_14 rfl rfl (hE 111 _ _ _ _ rfl) (hF _ (by decide)) w_974 w_972 w_973 w_109 (by decide +kernel)) ?_
  refine aSims_c (i := 9) (s_if_eq hC dX7_chance_17 rfl rfl rfl) ?_
  refine aSims_c (i := 10) (s_iload hC dX7_chance_20 rfl rfl) ?_
  refine aSims_c (i := 11) (s_i2l hC dX7_chance_22 rfl rfl) ?_
  refine aSims_c (i := 12) (s_lconst hC dX7_chance_23 rfl rfl rfl) ?_
  refine aSims_c (i := 13) (s_lconst hC dX7_chance_24 rfl rfl rfl) ?_
  refine aSims_c (i := 14) (s_callS hC dX7_chance_25 rfl rfl (hE 111 _ _ _ _ rfl) (hF _ (by decide)) w_974 w_972 w_973 w_109 (by decide +kernel)) ?_
  refine aSims_c (i := 15) (s_if_ne hC dX7_chance_28 rfl rfl rfl) ?_
  refine aSims_c (i := 16) (s_ldc2 hC dX7_chance_31 w_1317 rfl rfl) ?_
  refine aSims_c (i := 17) (s_lret hC dX7_chance_34 rfl hr hlk) ?_
  refine aSims_c (i := 18) (s_lconst hC dX7_chance_35 rfl rfl rfl) ?_
  refine aSims_c (i := 19) (s_lstore hC dX7_chance_36 rfl rfl) ?_
  refine aSims_c (i := 20) (s_iconst hC dX7_chance_38 rfl rfl rfl) ?_
  refine aSims_c (i := 21) (s_istore hC dX7_chance_39 rfl rfl) ?_
  refine aSims_c (i := 22) (s_iload hC dX7_chance_41 rfl rfl) ?_
  refine aSims_c (i := 23) (s_iload_n hC dX7_chance_43 rfl rfl) ?_
  refine aSims_c (i := 24) (s_icmp_ge hC dX7_chance_44 rfl rfl rfl) ?_
  refine aSims_c (i := 25) (s_lload hC dX7_chance_47 rfl rfl) ?_
  refine aSims_c (i := 26) (s_aload_n hC dX7_chance_49 rfl rfl) ?_
  refine aSims_c (i := 27) (s_iload_n hC dX7_chance_50 rfl rfl) ?_
  refine aSims_c (i := 28) (s_iload hC dX7_chance_51 rfl rfl) ?_
  refine aSims_c (i := 29) (s_iadd hC dX7_chance_53 rfl rfl) ?_
  refine aSims_c (i := 30) (s_iload_n hC dX7_chance_54 rfl rfl) ?_
  refine aSims_c (i := 31) (s_callV (n := 2) hC dX7_chance_55 rfl rfl (hE 203 _ _ _ _ rfl) (hF _ (by decide)) w_1358 w_1355 w_1357 w_94 w_109 rfl (by decide +kernel)) ?_
  refine aSims_c (i := 32) (s_iconst hC dX7_chance_58 rfl rfl rfl) ?_
  refine aSims_c (i := 33) (s_icmp_ne hC dX7_chance_59 rfl rfl rfl) ?_
  refine aSims_c (i := 34) (s_lconst hC dX7_chance_62 rfl rfl rfl) ?_
  refine aSims_c (i := 35) (s_goto hC dX7_chance_63 rfl rfl) ?_
  refine aSims_c (i := 36) (s_lconst hC dX7_chance_66 rfl rfl rfl) ?_
  refine aSims_c (i := 37) (s_ladd hC dX7_chance_67 rfl rfl) ?_
  refine aSims_c (i := 38) (s_lstore hC dX7_chance_68 rfl rfl) ?_
  refine aSims_c (i := 39) (s_iinc hC dX7_chance_70 rfl rfl) ?_
  refine aSims_c (i := 40) (s_goto hC dX7_chance_73 rfl rfl) ?_
  refine aSims_c (i := 41) (s_lload hC dX7_chance_76 rfl rfl) ?_
  refine aSims_c (i := 42) (s_iload_n hC dX7_chance_78 rfl rfl) ?_
  refine aSims_c (i := 43) (s_i2l hC dX7_chance_79 rfl rfl) ?_
  refine aSims_c (i := 44) (s_iload hC dX7_chance_80 rfl rfl) ?_
  refine aSims_c (i := 45) (s_callS hC dX7_chance_82 rfl rfl (hE 196 _ _ _ _ rfl) (hF _ (by decide)) w_1321 w_1319 w_1320 w_109 (by decide +kernel)) ?_
  refine aSims_c (i := 46) (s_lret hC dX7_chance_85 rfl hr hlk) ?_
  exact aSims_n
end SIM
