/-! each method's instructions are simulated (written by wip/whole/gen.py) -/
theorem dX6_test_0 : decode cX6_test 0 = .ok (.aload_n 0, 1) := by decide +kernel
theorem dX6_test_1 : decode cX6_test 1 = .ok (.iload_n 1, 1) := by decide +kernel
theorem dX6_test_2 : decode cX6_test 2 = .ok (.invokevirtual 96, 3) := by decide +kernel
theorem dX6_test_5 : decode cX6_test 5 = .ok (.astore 4, 2) := by decide +kernel
theorem dX6_test_7 : decode cX6_test 7 = .ok (.aload 4, 2) := by decide +kernel
theorem dX6_test_9 : decode cX6_test 9 = .ok (.ifnull 23, 3) := by decide +kernel
theorem dX6_test_12 : decode cX6_test 12 = .ok (.iload_n 2, 1) := by decide +kernel
theorem dX6_test_13 : decode cX6_test 13 = .ok (.ifCond .lt 19, 3) := by decide +kernel
theorem dX6_test_16 : decode cX6_test 16 = .ok (.iload_n 2, 1) := by decide +kernel
theorem dX6_test_17 : decode cX6_test 17 = .ok (.sipush 256, 3) := by decide +kernel
theorem dX6_test_20 : decode cX6_test 20 = .ok (.if_icmp .ge 12, 3) := by decide +kernel
theorem dX6_test_23 : decode cX6_test 23 = .ok (.iload_n 3, 1) := by decide +kernel
theorem dX6_test_24 : decode cX6_test 24 = .ok (.ifCond .lt 8, 3) := by decide +kernel
theorem dX6_test_27 : decode cX6_test 27 = .ok (.iload_n 3, 1) := by decide +kernel
theorem dX6_test_28 : decode cX6_test 28 = .ok (.iconst 1, 1) := by decide +kernel
theorem dX6_test_29 : decode cX6_test 29 = .ok (.if_icmp .le 7, 3) := by decide +kernel
theorem dX6_test_32 : decode cX6_test 32 = .ok (.ldc2_w 214, 3) := by decide +kernel
theorem dX6_test_35 : decode cX6_test 35 = .ok (.lreturn, 1) := by decide +kernel
theorem dX6_test_36 : decode cX6_test 36 = .ok (.lconst 1, 1) := by decide +kernel
theorem dX6_test_37 : decode cX6_test 37 = .ok (.lstore 5, 2) := by decide +kernel
theorem dX6_test_39 : decode cX6_test 39 = .ok (.lconst 1, 1) := by decide +kernel
theorem dX6_test_40 : decode cX6_test 40 = .ok (.lstore 7, 2) := by decide +kernel
theorem dX6_test_42 : decode cX6_test 42 = .ok (.iconst 0, 1) := by decide +kernel
theorem dX6_test_43 : decode cX6_test 43 = .ok (.istore 9, 2) := by decide +kernel
theorem dX6_test_45 : decode cX6_test 45 = .ok (.iload 9, 2) := by decide +kernel
theorem dX6_test_47 : decode cX6_test 47 = .ok (.bipush 8, 2) := by decide +kernel
theorem dX6_test_49 : decode cX6_test 49 = .ok (.if_icmp .ge 41, 3) := by decide +kernel
theorem dX6_test_52 : decode cX6_test 52 = .ok (.iload_n 2, 1) := by decide +kernel
theorem dX6_test_53 : decode cX6_test 53 = .ok (.iload 9, 2) := by decide +kernel
theorem dX6_test_55 : decode cX6_test 55 = .ok (.ishr, 1) := by decide +kernel
theorem dX6_test_56 : decode cX6_test 56 = .ok (.iconst 1, 1) := by decide +kernel
theorem dX6_test_57 : decode cX6_test 57 = .ok (.iand, 1) := by decide +kernel
theorem dX6_test_58 : decode cX6_test 58 = .ok (.iconst 1, 1) := by decide +kernel
theorem dX6_test_59 : decode cX6_test 59 = .ok (.if_icmp .ne 25, 3) := by decide +kernel
theorem dX6_test_62 : decode cX6_test 62 = .ok (.lload 5, 2) := by decide +kernel
theorem dX6_test_64 : decode cX6_test 64 = .ok (.aload 4, 2) := by decide +kernel
theorem dX6_test_66 : decode cX6_test 66 = .ok (.getfield 169, 3) := by decide +kernel
theorem dX6_test_69 : decode cX6_test 69 = .ok (.iload 9, 2) := by decide +kernel
theorem dX6_test_71 : decode cX6_test 71 = .ok (.iaload, 1) := by decide +kernel
theorem dX6_test_72 : decode cX6_test 72 = .ok (.i2l, 1) := by decide +kernel
theorem dX6_test_73 : decode cX6_test 73 = .ok (.lmul, 1) := by decide +kernel
theorem dX6_test_74 : decode cX6_test 74 = .ok (.lstore 5, 2) := by decide +kernel
theorem dX6_test_76 : decode cX6_test 76 = .ok (.lload 7, 2) := by decide +kernel
theorem dX6_test_78 : decode cX6_test 78 = .ok (.ldc2_w 216, 3) := by decide +kernel
theorem dX6_test_81 : decode cX6_test 81 = .ok (.lmul, 1) := by decide +kernel
theorem dX6_test_82 : decode cX6_test 82 = .ok (.lstore 7, 2) := by decide +kernel
theorem dX6_test_84 : decode cX6_test 84 = .ok (.iinc 9 1, 3) := by decide +kernel
theorem dX6_test_87 : decode cX6_test 87 = .ok (.goto (-42), 3) := by decide +kernel
theorem dX6_test_90 : decode cX6_test 90 = .ok (.lload 5, 2) := by decide +kernel
theorem dX6_test_92 : decode cX6_test 92 = .ok (.lload 7, 2) := by decide +kernel
theorem dX6_test_94 : decode cX6_test 94 = .ok (.iload_n 3, 1) := by decide +kernel
theorem dX6_test_95 : decode cX6_test 95 = .ok (.invokestatic 218, 3) := by decide +kernel
theorem dX6_test_98 : decode cX6_test 98 = .ok (.lreturn, 1) := by decide +kernel
theorem dX6_tells_0 : decode cX6_tells 0 = .ok (.aload_n 0, 1) := by decide +kernel
theorem dX6_tells_1 : decode cX6_tells 1 = .ok (.iload_n 1, 1) := by decide +kernel
theorem dX6_tells_2 : decode cX6_tells 2 = .ok (.invokevirtual 222, 3) := by decide +kernel
theorem dX6_tells_5 : decode cX6_tells 5 = .ok (.astore 5, 2) := by decide +kernel
theorem dX6_tells_7 : decode cX6_tells 7 = .ok (.aload_n 0, 1) := by decide +kernel
theorem dX6_tells_8 : decode cX6_tells 8 = .ok (.iload_n 2, 1) := by decide +kernel
theorem dX6_tells_9 : decode cX6_tells 9 = .ok (.invokevirtual 96, 3) := by decide +kernel
theorem dX6_tells_12 : decode cX6_tells 12 = .ok (.astore 6, 2) := by decide +kernel
theorem dX6_tells_14 : decode cX6_tells 14 = .ok (.aload 5, 2) := by decide +kernel
theorem dX6_tells_16 : decode cX6_tells 16 = .ok (.ifnull 27, 3) := by decide +kernel
theorem dX6_tells_19 : decode cX6_tells 19 = .ok (.aload 6, 2) := by decide +kernel
theorem dX6_tells_21 : decode cX6_tells 21 = .ok (.ifnull 22, 3) := by decide +kernel
theorem dX6_tells_24 : decode cX6_tells 24 = .ok (.iload_n 3, 1) := by decide +kernel
theorem dX6_tells_25 : decode cX6_tells 25 = .ok (.invokestatic 226, 3) := by decide +kernel
theorem dX6_tells_28 : decode cX6_tells 28 = .ok (.ifCond .eq 15, 3) := by decide +kernel
theorem dX6_tells_31 : decode cX6_tells 31 = .ok (.iload 4, 2) := by decide +kernel
theorem dX6_tells_33 : decode cX6_tells 33 = .ok (.ifCond .lt 10, 3) := by decide +kernel
theorem dX6_tells_36 : decode cX6_tells 36 = .ok (.iload 4, 2) := by decide +kernel
theorem dX6_tells_38 : decode cX6_tells 38 = .ok (.bipush 8, 2) := by decide +kernel
theorem dX6_tells_40 : decode cX6_tells 40 = .ok (.if_icmp .le 6, 3) := by decide +kernel
theorem dX6_tells_43 : decode cX6_tells 43 = .ok (.bipush (-2), 2) := by decide +kernel
theorem dX6_tells_45 : decode cX6_tells 45 = .ok (.ireturn, 1) := by decide +kernel
theorem dX6_tells_46 : decode cX6_tells 46 = .ok (.aload 5, 2) := by decide +kernel
theorem dX6_tells_48 : decode cX6_tells 48 = .ok (.getfield 229, 3) := by decide +kernel
theorem dX6_tells_51 : decode cX6_tells 51 = .ok (.iconst (-1), 1) := by decide +kernel
theorem dX6_tells_52 : decode cX6_tells 52 = .ok (.if_icmp .ne 6, 3) := by decide +kernel
theorem dX6_tells_55 : decode cX6_tells 55 = .ok (.bipush (-11), 2) := by decide +kernel
theorem dX6_tells_57 : decode cX6_tells 57 = .ok (.ireturn, 1) := by decide +kernel
theorem dX6_tells_58 : decode cX6_tells 58 = .ok (.iload_n 3, 1) := by decide +kernel
theorem dX6_tells_59 : decode cX6_tells 59 = .ok (.bipush 10, 2) := by decide +kernel
theorem dX6_tells_61 : decode cX6_tells 61 = .ok (.idiv, 1) := by decide +kernel
theorem dX6_tells_62 : decode cX6_tells 62 = .ok (.istore 7, 2) := by decide +kernel
theorem dX6_tells_64 : decode cX6_tells 64 = .ok (.aload_n 0, 1) := by decide +kernel
theorem dX6_tells_65 : decode cX6_tells 65 = .ok (.iload 4, 2) := by decide +kernel
theorem dX6_tells_67 : decode cX6_tells 67 = .ok (.invokevirtual 232, 3) := by decide +kernel
theorem dX6_tells_70 : decode cX6_tells 70 = .ok (.istore 8, 2) := by decide +kernel
theorem dX6_tells_72 : decode cX6_tells 72 = .ok (.iconst (-1), 1) := by decide +kernel
theorem dX6_tells_73 : decode cX6_tells 73 = .ok (.istore 9, 2) := by decide +kernel
theorem dX6_tells_75 : decode cX6_tells 75 = .ok (.iconst 0, 1) := by decide +kernel
theorem dX6_tells_76 : decode cX6_tells 76 = .ok (.istore 10, 2) := by decide +kernel
theorem dX6_tells_78 : decode cX6_tells 78 = .ok (.iconst 0, 1) := by decide +kernel
theorem dX6_tells_79 : decode cX6_tells 79 = .ok (.istore 11, 2) := by decide +kernel
theorem dX6_tells_81 : decode cX6_tells 81 = .ok (.iconst (-1), 1) := by decide +kernel
theorem dX6_tells_82 : decode cX6_tells 82 = .ok (.istore 12, 2) := by decide +kernel
theorem dX6_tells_84 : decode cX6_tells 84 = .ok (.iconst 0, 1) := by decide +kernel
theorem dX6_tells_85 : decode cX6_tells 85 = .ok (.istore 13, 2) := by decide +kernel
theorem dX6_tells_87 : decode cX6_tells 87 = .ok (.iload 13, 2) := by decide +kernel
theorem dX6_tells_89 : decode cX6_tells 89 = .ok (.iload 8, 2) := by decide +kernel
theorem dX6_tells_91 : decode cX6_tells 91 = .ok (.if_icmp .ge 93, 3) := by decide +kernel
theorem dX6_tells_94 : decode cX6_tells 94 = .ok (.aload_n 0, 1) := by decide +kernel
theorem dX6_tells_95 : decode cX6_tells 95 = .ok (.getfield 84, 3) := by decide +kernel
theorem dX6_tells_98 : decode cX6_tells 98 = .ok (.aload_n 0, 1) := by decide +kernel
theorem dX6_tells_99 : decode cX6_tells 99 = .ok (.getfield 74, 3) := by decide +kernel
theorem dX6_tells_102 : decode cX6_tells 102 = .ok (.aload 6, 2) := by decide +kernel
theorem dX6_tells_104 : decode cX6_tells 104 = .ok (.invokevirtual 235, 3) := by decide +kernel
theorem dX6_tells_107 : decode cX6_tells 107 = .ok (.aload_n 0, 1) := by decide +kernel
theorem dX6_tells_108 : decode cX6_tells 108 = .ok (.iload 4, 2) := by decide +kernel
theorem dX6_tells_110 : decode cX6_tells 110 = .ok (.iload 7, 2) := by decide +kernel
theorem dX6_tells_112 : decode cX6_tells 112 = .ok (.iload 13, 2) := by decide +kernel
theorem dX6_tells_114 : decode cX6_tells 114 = .ok (.invokevirtual 237, 3) := by decide +kernel
theorem dX6_tells_117 : decode cX6_tells 117 = .ok (.aload_n 0, 1) := by decide +kernel
theorem dX6_tells_118 : decode cX6_tells 118 = .ok (.getfield 84, 3) := by decide +kernel
theorem dX6_tells_121 : decode cX6_tells 121 = .ok (.aload 5, 2) := by decide +kernel
theorem dX6_tells_123 : decode cX6_tells 123 = .ok (.iload 7, 2) := by decide +kernel
theorem dX6_tells_125 : decode cX6_tells 125 = .ok (.iload 4, 2) := by decide +kernel
theorem dX6_tells_127 : decode cX6_tells 127 = .ok (.iconst 3, 1) := by decide +kernel
theorem dX6_tells_128 : decode cX6_tells 128 = .ok (.if_icmp .ne 8, 3) := by decide +kernel
theorem dX6_tells_131 : decode cX6_tells 131 = .ok (.iload 13, 2) := by decide +kernel
theorem dX6_tells_133 : decode cX6_tells 133 = .ok (.goto 7, 3) := by decide +kernel
theorem dX6_tells_136 : decode cX6_tells 136 = .ok (.iload_n 3, 1) := by decide +kernel
theorem dX6_tells_137 : decode cX6_tells 137 = .ok (.bipush 10, 2) := by decide +kernel
theorem dX6_tells_139 : decode cX6_tells 139 = .ok (.irem, 1) := by decide +kernel
theorem dX6_tells_140 : decode cX6_tells 140 = .ok (.invokevirtual 241, 3) := by decide +kernel
theorem dX6_tells_143 : decode cX6_tells 143 = .ok (.istore 9, 2) := by decide +kernel
theorem dX6_tells_145 : decode cX6_tells 145 = .ok (.iload 9, 2) := by decide +kernel
theorem dX6_tells_147 : decode cX6_tells 147 = .ok (.iconst (-1), 1) := by decide +kernel
theorem dX6_tells_148 : decode cX6_tells 148 = .ok (.if_icmp .ne 30, 3) := by decide +kernel
theorem dX6_tells_151 : decode cX6_tells 151 = .ok (.iload 10, 2) := by decide +kernel
theorem dX6_tells_153 : decode cX6_tells 153 = .ok (.iconst 1, 1) := by decide +kernel
theorem dX6_tells_154 : decode cX6_tells 154 = .ok (.iload 13, 2) := by decide +kernel
theorem dX6_tells_156 : decode cX6_tells 156 = .ok (.ishl, 1) := by decide +kernel
theorem dX6_tells_157 : decode cX6_tells 157 = .ok (.ior, 1) := by decide +kernel
theorem dX6_tells_158 : decode cX6_tells 158 = .ok (.istore 10, 2) := by decide +kernel
theorem dX6_tells_160 : decode cX6_tells 160 = .ok (.iinc 11 1, 3) := by decide +kernel
theorem dX6_tells_163 : decode cX6_tells 163 = .ok (.iload 12, 2) := by decide +kernel
theorem dX6_tells_165 : decode cX6_tells 165 = .ok (.iconst (-1), 1) := by decide +kernel
theorem dX6_tells_166 : decode cX6_tells 166 = .ok (.if_icmp .ne 8, 3) := by decide +kernel
theorem dX6_tells_169 : decode cX6_tells 169 = .ok (.iload 13, 2) := by decide +kernel
theorem dX6_tells_171 : decode cX6_tells 171 = .ok (.goto 5, 3) := by decide +kernel
theorem dX6_tells_174 : decode cX6_tells 174 = .ok (.iload 12, 2) := by decide +kernel
theorem dX6_tells_176 : decode cX6_tells 176 = .ok (.istore 12, 2) := by decide +kernel
theorem dX6_tells_178 : decode cX6_tells 178 = .ok (.iinc 13 1, 3) := by decide +kernel
theorem dX6_tells_181 : decode cX6_tells 181 = .ok (.goto (-94), 3) := by decide +kernel
theorem dX6_tells_184 : decode cX6_tells 184 = .ok (.iload 4, 2) := by decide +kernel
theorem dX6_tells_186 : decode cX6_tells 186 = .ok (.tableswitch 55 0 7 #[46, 55, 55, 55, 49, 52, 49, 52], 46) := by decide +kernel
theorem dX6_tells_232 : decode cX6_tells 232 = .ok (.iload 9, 2) := by decide +kernel
theorem dX6_tells_234 : decode cX6_tells 234 = .ok (.ireturn, 1) := by decide +kernel
theorem dX6_tells_235 : decode cX6_tells 235 = .ok (.iload 11, 2) := by decide +kernel
theorem dX6_tells_237 : decode cX6_tells 237 = .ok (.ireturn, 1) := by decide +kernel
theorem dX6_tells_238 : decode cX6_tells 238 = .ok (.iload 12, 2) := by decide +kernel
theorem dX6_tells_240 : decode cX6_tells 240 = .ok (.ireturn, 1) := by decide +kernel
theorem dX6_tells_241 : decode cX6_tells 241 = .ok (.iload 10, 2) := by decide +kernel
theorem dX6_tells_243 : decode cX6_tells 243 = .ok (.ireturn, 1) := by decide +kernel
theorem dX6_guessesOf_0 : decode cX6_guessesOf 0 = .ok (.iload_n 1, 1) := by decide +kernel
theorem dX6_guessesOf_1 : decode cX6_guessesOf 1 = .ok (.tableswitch 66 0 8 #[51, 53, 56, 59, 66, 66, 66, 66, 61], 51) := by decide +kernel
theorem dX6_guessesOf_52 : decode cX6_guessesOf 52 = .ok (.iconst 1, 1) := by decide +kernel
theorem dX6_guessesOf_53 : decode cX6_guessesOf 53 = .ok (.ireturn, 1) := by decide +kernel
theorem dX6_guessesOf_54 : decode cX6_guessesOf 54 = .ok (.bipush 6, 2) := by decide +kernel
theorem dX6_guessesOf_56 : decode cX6_guessesOf 56 = .ok (.ireturn, 1) := by decide +kernel
theorem dX6_guessesOf_57 : decode cX6_guessesOf 57 = .ok (.bipush 10, 2) := by decide +kernel
theorem dX6_guessesOf_59 : decode cX6_guessesOf 59 = .ok (.ireturn, 1) := by decide +kernel
theorem dX6_guessesOf_60 : decode cX6_guessesOf 60 = .ok (.iconst 3, 1) := by decide +kernel
theorem dX6_guessesOf_61 : decode cX6_guessesOf 61 = .ok (.ireturn, 1) := by decide +kernel
theorem dX6_guessesOf_62 : decode cX6_guessesOf 62 = .ok (.aload_n 0, 1) := by decide +kernel
theorem dX6_guessesOf_63 : decode cX6_guessesOf 63 = .ok (.getfield 66, 3) := by decide +kernel
theorem dX6_guessesOf_66 : decode cX6_guessesOf 66 = .ok (.ireturn, 1) := by decide +kernel
theorem dX6_guessesOf_67 : decode cX6_guessesOf 67 = .ok (.iload_n 1, 1) := by decide +kernel
theorem dX6_guessesOf_68 : decode cX6_guessesOf 68 = .ok (.iconst 5, 1) := by decide +kernel
theorem dX6_guessesOf_69 : decode cX6_guessesOf 69 = .ok (.if_icmp .gt 8, 3) := by decide +kernel
theorem dX6_guessesOf_72 : decode cX6_guessesOf 72 = .ok (.bipush 100, 2) := by decide +kernel
theorem dX6_guessesOf_74 : decode cX6_guessesOf 74 = .ok (.goto 5, 3) := by decide +kernel
theorem dX6_guessesOf_77 : decode cX6_guessesOf 77 = .ok (.bipush 100, 2) := by decide +kernel
theorem dX6_guessesOf_79 : decode cX6_guessesOf 79 = .ok (.ireturn, 1) := by decide +kernel
theorem dX6_suppose_0 : decode cX6_suppose 0 = .ok (.iload_n 1, 1) := by decide +kernel
theorem dX6_suppose_1 : decode cX6_suppose 1 = .ok (.iconst 1, 1) := by decide +kernel
theorem dX6_suppose_2 : decode cX6_suppose 2 = .ok (.if_icmp .ne 17, 3) := by decide +kernel
theorem dX6_suppose_5 : decode cX6_suppose 5 = .ok (.aload_n 0, 1) := by decide +kernel
theorem dX6_suppose_6 : decode cX6_suppose 6 = .ok (.getfield 84, 3) := by decide +kernel
theorem dX6_suppose_9 : decode cX6_suppose 9 = .ok (.getfield 245, 3) := by decide +kernel
theorem dX6_suppose_12 : decode cX6_suppose 12 = .ok (.iload_n 3, 1) := by decide +kernel
theorem dX6_suppose_13 : decode cX6_suppose 13 = .ok (.putfield 249, 3) := by decide +kernel
theorem dX6_suppose_16 : decode cX6_suppose 16 = .ok (.goto 106, 3) := by decide +kernel
theorem dX6_suppose_19 : decode cX6_suppose 19 = .ok (.iload_n 1, 1) := by decide +kernel
theorem dX6_suppose_20 : decode cX6_suppose 20 = .ok (.iconst 2, 1) := by decide +kernel
theorem dX6_suppose_21 : decode cX6_suppose 21 = .ok (.if_icmp .ne 17, 3) := by decide +kernel
theorem dX6_suppose_24 : decode cX6_suppose 24 = .ok (.aload_n 0, 1) := by decide +kernel
theorem dX6_suppose_25 : decode cX6_suppose 25 = .ok (.getfield 84, 3) := by decide +kernel
theorem dX6_suppose_28 : decode cX6_suppose 28 = .ok (.getfield 245, 3) := by decide +kernel
theorem dX6_suppose_31 : decode cX6_suppose 31 = .ok (.iload_n 3, 1) := by decide +kernel
theorem dX6_suppose_32 : decode cX6_suppose 32 = .ok (.putfield 252, 3) := by decide +kernel
theorem dX6_suppose_35 : decode cX6_suppose 35 = .ok (.goto 87, 3) := by decide +kernel
theorem dX6_suppose_38 : decode cX6_suppose 38 = .ok (.iload_n 1, 1) := by decide +kernel
theorem dX6_suppose_39 : decode cX6_suppose 39 = .ok (.iconst 4, 1) := by decide +kernel
theorem dX6_suppose_40 : decode cX6_suppose 40 = .ok (.if_icmp .eq 8, 3) := by decide +kernel
theorem dX6_suppose_43 : decode cX6_suppose 43 = .ok (.iload_n 1, 1) := by decide +kernel
theorem dX6_suppose_44 : decode cX6_suppose 44 = .ok (.iconst 5, 1) := by decide +kernel
theorem dX6_suppose_45 : decode cX6_suppose 45 = .ok (.if_icmp .ne 19, 3) := by decide +kernel
theorem dX6_suppose_48 : decode cX6_suppose 48 = .ok (.aload_n 0, 1) := by decide +kernel
theorem dX6_suppose_49 : decode cX6_suppose 49 = .ok (.getfield 84, 3) := by decide +kernel
theorem dX6_suppose_52 : decode cX6_suppose 52 = .ok (.getfield 245, 3) := by decide +kernel
theorem dX6_suppose_55 : decode cX6_suppose 55 = .ok (.getfield 169, 3) := by decide +kernel
theorem dX6_suppose_58 : decode cX6_suppose 58 = .ok (.iload_n 2, 1) := by decide +kernel
theorem dX6_suppose_59 : decode cX6_suppose 59 = .ok (.iload_n 3, 1) := by decide +kernel
theorem dX6_suppose_60 : decode cX6_suppose 60 = .ok (.iastore, 1) := by decide +kernel
theorem dX6_suppose_61 : decode cX6_suppose 61 = .ok (.goto 61, 3) := by decide +kernel
theorem dX6_suppose_64 : decode cX6_suppose 64 = .ok (.iload_n 1, 1) := by decide +kernel
theorem dX6_suppose_65 : decode cX6_suppose 65 = .ok (.bipush 6, 2) := by decide +kernel
theorem dX6_suppose_67 : decode cX6_suppose 67 = .ok (.if_icmp .eq 9, 3) := by decide +kernel
theorem dX6_suppose_70 : decode cX6_suppose 70 = .ok (.iload_n 1, 1) := by decide +kernel
theorem dX6_suppose_71 : decode cX6_suppose 71 = .ok (.bipush 7, 2) := by decide +kernel
theorem dX6_suppose_73 : decode cX6_suppose 73 = .ok (.if_icmp .ne 19, 3) := by decide +kernel
theorem dX6_suppose_76 : decode cX6_suppose 76 = .ok (.aload_n 0, 1) := by decide +kernel
theorem dX6_suppose_77 : decode cX6_suppose 77 = .ok (.getfield 84, 3) := by decide +kernel
theorem dX6_suppose_80 : decode cX6_suppose 80 = .ok (.getfield 253, 3) := by decide +kernel
theorem dX6_suppose_83 : decode cX6_suppose 83 = .ok (.getfield 109, 3) := by decide +kernel
theorem dX6_suppose_86 : decode cX6_suppose 86 = .ok (.iload_n 2, 1) := by decide +kernel
theorem dX6_suppose_87 : decode cX6_suppose 87 = .ok (.iload_n 3, 1) := by decide +kernel
theorem dX6_suppose_88 : decode cX6_suppose 88 = .ok (.iastore, 1) := by decide +kernel
theorem dX6_suppose_89 : decode cX6_suppose 89 = .ok (.goto 33, 3) := by decide +kernel
theorem dX6_suppose_92 : decode cX6_suppose 92 = .ok (.iload_n 1, 1) := by decide +kernel
theorem dX6_suppose_93 : decode cX6_suppose 93 = .ok (.bipush 8, 2) := by decide +kernel
theorem dX6_suppose_95 : decode cX6_suppose 95 = .ok (.if_icmp .ne 27, 3) := by decide +kernel
theorem dX6_suppose_98 : decode cX6_suppose 98 = .ok (.aload_n 0, 1) := by decide +kernel
theorem dX6_suppose_99 : decode cX6_suppose 99 = .ok (.iload_n 3, 1) := by decide +kernel
theorem dX6_suppose_100 : decode cX6_suppose 100 = .ok (.invokevirtual 151, 3) := by decide +kernel
theorem dX6_suppose_103 : decode cX6_suppose 103 = .ok (.astore 4, 2) := by decide +kernel
theorem dX6_suppose_105 : decode cX6_suppose 105 = .ok (.aload 4, 2) := by decide +kernel
theorem dX6_suppose_107 : decode cX6_suppose 107 = .ok (.ifnull 15, 3) := by decide +kernel
theorem dX6_suppose_110 : decode cX6_suppose 110 = .ok (.aload_n 0, 1) := by decide +kernel
theorem dX6_suppose_111 : decode cX6_suppose 111 = .ok (.getfield 84, 3) := by decide +kernel
theorem dX6_suppose_114 : decode cX6_suppose 114 = .ok (.getfield 253, 3) := by decide +kernel
theorem dX6_suppose_117 : decode cX6_suppose 117 = .ok (.aload 4, 2) := by decide +kernel
theorem dX6_suppose_119 : decode cX6_suppose 119 = .ok (.putfield 155, 3) := by decide +kernel
theorem dX6_suppose_122 : decode cX6_suppose 122 = .ok (.return_, 1) := by decide +kernel
theorem dX6_film_0 : decode cX6_film 0 = .ok (.aload_n 0, 1) := by decide +kernel
theorem dX6_film_1 : decode cX6_film 1 = .ok (.iload_n 1, 1) := by decide +kernel
theorem dX6_film_2 : decode cX6_film 2 = .ok (.invokevirtual 222, 3) := by decide +kernel
theorem dX6_film_5 : decode cX6_film 5 = .ok (.astore 5, 2) := by decide +kernel
theorem dX6_film_7 : decode cX6_film 7 = .ok (.aload_n 0, 1) := by decide +kernel
theorem dX6_film_8 : decode cX6_film 8 = .ok (.iload_n 2, 1) := by decide +kernel
theorem dX6_film_9 : decode cX6_film 9 = .ok (.invokevirtual 96, 3) := by decide +kernel
theorem dX6_film_12 : decode cX6_film 12 = .ok (.astore 6, 2) := by decide +kernel
theorem dX6_film_14 : decode cX6_film 14 = .ok (.aload 5, 2) := by decide +kernel
theorem dX6_film_16 : decode cX6_film 16 = .ok (.ifnull 27, 3) := by decide +kernel
theorem dX6_film_19 : decode cX6_film 19 = .ok (.aload 6, 2) := by decide +kernel
theorem dX6_film_21 : decode cX6_film 21 = .ok (.ifnull 22, 3) := by decide +kernel
theorem dX6_film_24 : decode cX6_film 24 = .ok (.iload_n 3, 1) := by decide +kernel
theorem dX6_film_25 : decode cX6_film 25 = .ok (.invokestatic 226, 3) := by decide +kernel
theorem dX6_film_28 : decode cX6_film 28 = .ok (.ifCond .eq 15, 3) := by decide +kernel
theorem dX6_film_31 : decode cX6_film 31 = .ok (.iload 4, 2) := by decide +kernel
theorem dX6_film_33 : decode cX6_film 33 = .ok (.ifCond .lt 10, 3) := by decide +kernel
theorem dX6_film_36 : decode cX6_film 36 = .ok (.iload 4, 2) := by decide +kernel
theorem dX6_film_38 : decode cX6_film 38 = .ok (.bipush 40, 2) := by decide +kernel
theorem dX6_film_40 : decode cX6_film 40 = .ok (.if_icmp .le 6, 3) := by decide +kernel
theorem dX6_film_43 : decode cX6_film 43 = .ok (.bipush (-2), 2) := by decide +kernel
theorem dX6_film_45 : decode cX6_film 45 = .ok (.ireturn, 1) := by decide +kernel
theorem dX6_film_46 : decode cX6_film 46 = .ok (.iload_n 3, 1) := by decide +kernel
theorem dX6_film_47 : decode cX6_film 47 = .ok (.bipush 10, 2) := by decide +kernel
theorem dX6_film_49 : decode cX6_film 49 = .ok (.idiv, 1) := by decide +kernel
theorem dX6_film_50 : decode cX6_film 50 = .ok (.istore 7, 2) := by decide +kernel
theorem dX6_film_52 : decode cX6_film 52 = .ok (.aload_n 0, 1) := by decide +kernel
theorem dX6_film_53 : decode cX6_film 53 = .ok (.getfield 84, 3) := by decide +kernel
theorem dX6_film_56 : decode cX6_film 56 = .ok (.aload_n 0, 1) := by decide +kernel
theorem dX6_film_57 : decode cX6_film 57 = .ok (.getfield 74, 3) := by decide +kernel
theorem dX6_film_60 : decode cX6_film 60 = .ok (.aload 6, 2) := by decide +kernel
theorem dX6_film_62 : decode cX6_film 62 = .ok (.invokevirtual 235, 3) := by decide +kernel
theorem dX6_film_65 : decode cX6_film 65 = .ok (.aload 5, 2) := by decide +kernel
theorem dX6_film_67 : decode cX6_film 67 = .ok (.iconst 0, 1) := by decide +kernel
theorem dX6_film_68 : decode cX6_film 68 = .ok (.iload 4, 2) := by decide +kernel
theorem dX6_film_70 : decode cX6_film 70 = .ok (.invokevirtual 254, 3) := by decide +kernel
theorem dX6_film_73 : decode cX6_film 73 = .ok (.iconst 0, 1) := by decide +kernel
theorem dX6_film_74 : decode cX6_film 74 = .ok (.istore 8, 2) := by decide +kernel
theorem dX6_film_76 : decode cX6_film 76 = .ok (.iload 8, 2) := by decide +kernel
theorem dX6_film_78 : decode cX6_film 78 = .ok (.iload 4, 2) := by decide +kernel
theorem dX6_film_80 : decode cX6_film 80 = .ok (.if_icmp .ge 52, 3) := by decide +kernel
theorem dX6_film_83 : decode cX6_film 83 = .ok (.aload_n 0, 1) := by decide +kernel
theorem dX6_film_84 : decode cX6_film 84 = .ok (.getfield 84, 3) := by decide +kernel
theorem dX6_film_87 : decode cX6_film 87 = .ok (.getfield 253, 3) := by decide +kernel
theorem dX6_film_90 : decode cX6_film 90 = .ok (.aload_n 0, 1) := by decide +kernel
theorem dX6_film_91 : decode cX6_film 91 = .ok (.getfield 84, 3) := by decide +kernel
theorem dX6_film_94 : decode cX6_film 94 = .ok (.getfield 245, 3) := by decide +kernel
theorem dX6_film_97 : decode cX6_film 97 = .ok (.iload 7, 2) := by decide +kernel
theorem dX6_film_99 : decode cX6_film 99 = .ok (.iload_n 3, 1) := by decide +kernel
theorem dX6_film_100 : decode cX6_film 100 = .ok (.bipush 10, 2) := by decide +kernel
theorem dX6_film_102 : decode cX6_film 102 = .ok (.irem, 1) := by decide +kernel
theorem dX6_film_103 : decode cX6_film 103 = .ok (.invokevirtual 165, 3) := by decide +kernel
theorem dX6_film_106 : decode cX6_film 106 = .ok (.aload 5, 2) := by decide +kernel
theorem dX6_film_108 : decode cX6_film 108 = .ok (.iload 8, 2) := by decide +kernel
theorem dX6_film_110 : decode cX6_film 110 = .ok (.aload_n 0, 1) := by decide +kernel
theorem dX6_film_111 : decode cX6_film 111 = .ok (.getfield 84, 3) := by decide +kernel
theorem dX6_film_114 : decode cX6_film 114 = .ok (.getfield 245, 3) := by decide +kernel
theorem dX6_film_117 : decode cX6_film 117 = .ok (.getfield 169, 3) := by decide +kernel
theorem dX6_film_120 : decode cX6_film 120 = .ok (.iload 7, 2) := by decide +kernel
theorem dX6_film_122 : decode cX6_film 122 = .ok (.iaload, 1) := by decide +kernel
theorem dX6_film_123 : decode cX6_film 123 = .ok (.invokevirtual 257, 3) := by decide +kernel
theorem dX6_film_126 : decode cX6_film 126 = .ok (.iinc 8 1, 3) := by decide +kernel
theorem dX6_film_129 : decode cX6_film 129 = .ok (.goto (-53), 3) := by decide +kernel
theorem dX6_film_132 : decode cX6_film 132 = .ok (.iload 4, 2) := by decide +kernel
theorem dX6_film_134 : decode cX6_film 134 = .ok (.ireturn, 1) := by decide +kernel
theorem dX6_drawn_0 : decode cX6_drawn 0 = .ok (.aload_n 0, 1) := by decide +kernel
theorem dX6_drawn_1 : decode cX6_drawn 1 = .ok (.iload_n 2, 1) := by decide +kernel
theorem dX6_drawn_2 : decode cX6_drawn 2 = .ok (.invokevirtual 96, 3) := by decide +kernel
theorem dX6_drawn_5 : decode cX6_drawn 5 = .ok (.astore_n 3, 1) := by decide +kernel
theorem dX6_drawn_6 : decode cX6_drawn 6 = .ok (.aload_n 3, 1) := by decide +kernel
theorem dX6_drawn_7 : decode cX6_drawn 7 = .ok (.ifnonnull 8, 3) := by decide +kernel
theorem dX6_drawn_10 : decode cX6_drawn 10 = .ok (.bipush (-2), 2) := by decide +kernel
theorem dX6_drawn_12 : decode cX6_drawn 12 = .ok (.goto 8, 3) := by decide +kernel
theorem dX6_drawn_15 : decode cX6_drawn 15 = .ok (.iload_n 1, 1) := by decide +kernel
theorem dX6_drawn_16 : decode cX6_drawn 16 = .ok (.aload_n 3, 1) := by decide +kernel
theorem dX6_drawn_17 : decode cX6_drawn 17 = .ok (.invokestatic 259, 3) := by decide +kernel
theorem dX6_drawn_20 : decode cX6_drawn 20 = .ok (.ireturn, 1) := by decide +kernel
theorem dX6_chance_0 : decode cX6_chance 0 = .ok (.aload_n 0, 1) := by decide +kernel
theorem dX6_chance_1 : decode cX6_chance 1 = .ok (.iload_n 3, 1) := by decide +kernel
theorem dX6_chance_2 : decode cX6_chance 2 = .ok (.invokevirtual 96, 3) := by decide +kernel
theorem dX6_chance_5 : decode cX6_chance 5 = .ok (.astore 5, 2) := by decide +kernel
theorem dX6_chance_7 : decode cX6_chance 7 = .ok (.aload 5, 2) := by decide +kernel
theorem dX6_chance_9 : decode cX6_chance 9 = .ok (.ifnull 25, 3) := by decide +kernel
theorem dX6_chance_12 : decode cX6_chance 12 = .ok (.iload_n 2, 1) := by decide +kernel
theorem dX6_chance_13 : decode cX6_chance 13 = .ok (.iconst 1, 1) := by decide +kernel
theorem dX6_chance_14 : decode cX6_chance 14 = .ok (.if_icmp .lt 20, 3) := by decide +kernel
theorem dX6_chance_17 : decode cX6_chance 17 = .ok (.iload_n 2, 1) := by decide +kernel
theorem dX6_chance_18 : decode cX6_chance 18 = .ok (.bipush 20, 2) := by decide +kernel
theorem dX6_chance_20 : decode cX6_chance 20 = .ok (.if_icmp .gt 14, 3) := by decide +kernel
theorem dX6_chance_23 : decode cX6_chance 23 = .ok (.iload 4, 2) := by decide +kernel
theorem dX6_chance_25 : decode cX6_chance 25 = .ok (.ifCond .lt 9, 3) := by decide +kernel
theorem dX6_chance_28 : decode cX6_chance 28 = .ok (.iload 4, 2) := by decide +kernel
theorem dX6_chance_30 : decode cX6_chance 30 = .ok (.iconst 1, 1) := by decide +kernel
theorem dX6_chance_31 : decode cX6_chance 31 = .ok (.if_icmp .le 7, 3) := by decide +kernel
theorem dX6_chance_34 : decode cX6_chance 34 = .ok (.ldc2_w 214, 3) := by decide +kernel
theorem dX6_chance_37 : decode cX6_chance 37 = .ok (.lreturn, 1) := by decide +kernel
theorem dX6_chance_38 : decode cX6_chance 38 = .ok (.iconst 0, 1) := by decide +kernel
theorem dX6_chance_39 : decode cX6_chance 39 = .ok (.istore 6, 2) := by decide +kernel
theorem dX6_chance_41 : decode cX6_chance 41 = .ok (.iconst 0, 1) := by decide +kernel
theorem dX6_chance_42 : decode cX6_chance 42 = .ok (.istore 7, 2) := by decide +kernel
theorem dX6_chance_44 : decode cX6_chance 44 = .ok (.iload 7, 2) := by decide +kernel
theorem dX6_chance_46 : decode cX6_chance 46 = .ok (.iload_n 2, 1) := by decide +kernel
theorem dX6_chance_47 : decode cX6_chance 47 = .ok (.if_icmp .ge 25, 3) := by decide +kernel
theorem dX6_chance_50 : decode cX6_chance 50 = .ok (.iload_n 1, 1) := by decide +kernel
theorem dX6_chance_51 : decode cX6_chance 51 = .ok (.iload 7, 2) := by decide +kernel
theorem dX6_chance_53 : decode cX6_chance 53 = .ok (.iadd, 1) := by decide +kernel
theorem dX6_chance_54 : decode cX6_chance 54 = .ok (.aload 5, 2) := by decide +kernel
theorem dX6_chance_56 : decode cX6_chance 56 = .ok (.invokestatic 259, 3) := by decide +kernel
theorem dX6_chance_59 : decode cX6_chance 59 = .ok (.iconst 5, 1) := by decide +kernel
theorem dX6_chance_60 : decode cX6_chance 60 = .ok (.if_icmp .ne 6, 3) := by decide +kernel
theorem dX6_chance_63 : decode cX6_chance 63 = .ok (.iinc 6 1, 3) := by decide +kernel
theorem dX6_chance_66 : decode cX6_chance 66 = .ok (.iinc 7 1, 3) := by decide +kernel
theorem dX6_chance_69 : decode cX6_chance 69 = .ok (.goto (-25), 3) := by decide +kernel
theorem dX6_chance_72 : decode cX6_chance 72 = .ok (.iload 6, 2) := by decide +kernel
theorem dX6_chance_74 : decode cX6_chance 74 = .ok (.i2l, 1) := by decide +kernel
theorem dX6_chance_75 : decode cX6_chance 75 = .ok (.iload_n 2, 1) := by decide +kernel
theorem dX6_chance_76 : decode cX6_chance 76 = .ok (.i2l, 1) := by decide +kernel
theorem dX6_chance_77 : decode cX6_chance 77 = .ok (.iload 4, 2) := by decide +kernel
theorem dX6_chance_79 : decode cX6_chance 79 = .ok (.invokestatic 218, 3) := by decide +kernel
theorem dX6_chance_82 : decode cX6_chance 82 = .ok (.lreturn, 1) := by decide +kernel
theorem dX6_passedBy_0 : decode cX6_passedBy 0 = .ok (.iload_n 0, 1) := by decide +kernel
theorem dX6_passedBy_1 : decode cX6_passedBy 1 = .ok (.istore_n 2, 1) := by decide +kernel
theorem dX6_passedBy_2 : decode cX6_passedBy 2 = .ok (.iload_n 0, 1) := by decide +kernel
theorem dX6_passedBy_3 : decode cX6_passedBy 3 = .ok (.istore_n 3, 1) := by decide +kernel
theorem dX6_passedBy_4 : decode cX6_passedBy 4 = .ok (.iconst 0, 1) := by decide +kernel
theorem dX6_passedBy_5 : decode cX6_passedBy 5 = .ok (.istore 4, 2) := by decide +kernel
theorem dX6_passedBy_7 : decode cX6_passedBy 7 = .ok (.iload 4, 2) := by decide +kernel
theorem dX6_passedBy_9 : decode cX6_passedBy 9 = .ok (.iconst 5, 1) := by decide +kernel
theorem dX6_passedBy_10 : decode cX6_passedBy 10 = .ok (.if_icmp .ge 14, 3) := by decide +kernel
theorem dX6_passedBy_13 : decode cX6_passedBy 13 = .ok (.iload_n 3, 1) := by decide +kernel
theorem dX6_passedBy_14 : decode cX6_passedBy 14 = .ok (.invokestatic 263, 3) := by decide +kernel
theorem dX6_passedBy_17 : decode cX6_passedBy 17 = .ok (.istore_n 3, 1) := by decide +kernel
theorem dX6_passedBy_18 : decode cX6_passedBy 18 = .ok (.iinc 4 1, 3) := by decide +kernel
theorem dX6_passedBy_21 : decode cX6_passedBy 21 = .ok (.goto (-14), 3) := by decide +kernel
theorem dX6_passedBy_24 : decode cX6_passedBy 24 = .ok (.iconst 0, 1) := by decide +kernel
theorem dX6_passedBy_25 : decode cX6_passedBy 25 = .ok (.istore 4, 2) := by decide +kernel
theorem dX6_passedBy_27 : decode cX6_passedBy 27 = .ok (.iconst 0, 1) := by decide +kernel
theorem dX6_passedBy_28 : decode cX6_passedBy 28 = .ok (.istore 5, 2) := by decide +kernel
theorem dX6_passedBy_30 : decode cX6_passedBy 30 = .ok (.iload 5, 2) := by decide +kernel
theorem dX6_passedBy_32 : decode cX6_passedBy 32 = .ok (.iconst 5, 1) := by decide +kernel
theorem dX6_passedBy_33 : decode cX6_passedBy 33 = .ok (.if_icmp .ge 44, 3) := by decide +kernel
theorem dX6_passedBy_36 : decode cX6_passedBy 36 = .ok (.iload_n 2, 1) := by decide +kernel
theorem dX6_passedBy_37 : decode cX6_passedBy 37 = .ok (.invokestatic 263, 3) := by decide +kernel
theorem dX6_passedBy_40 : decode cX6_passedBy 40 = .ok (.istore_n 2, 1) := by decide +kernel
theorem dX6_passedBy_41 : decode cX6_passedBy 41 = .ok (.iload_n 3, 1) := by decide +kernel
theorem dX6_passedBy_42 : decode cX6_passedBy 42 = .ok (.invokestatic 263, 3) := by decide +kernel
theorem dX6_passedBy_45 : decode cX6_passedBy 45 = .ok (.istore_n 3, 1) := by decide +kernel
theorem dX6_passedBy_46 : decode cX6_passedBy 46 = .ok (.iload_n 3, 1) := by decide +kernel
theorem dX6_passedBy_47 : decode cX6_passedBy 47 = .ok (.bipush 9, 2) := by decide +kernel
theorem dX6_passedBy_49 : decode cX6_passedBy 49 = .ok (.iushr, 1) := by decide +kernel
theorem dX6_passedBy_50 : decode cX6_passedBy 50 = .ok (.bipush 100, 2) := by decide +kernel
theorem dX6_passedBy_52 : decode cX6_passedBy 52 = .ok (.irem, 1) := by decide +kernel
theorem dX6_passedBy_53 : decode cX6_passedBy 53 = .ok (.aload_n 1, 1) := by decide +kernel
theorem dX6_passedBy_54 : decode cX6_passedBy 54 = .ok (.getfield 169, 3) := by decide +kernel
theorem dX6_passedBy_57 : decode cX6_passedBy 57 = .ok (.iload_n 2, 1) := by decide +kernel
theorem dX6_passedBy_58 : decode cX6_passedBy 58 = .ok (.bipush 9, 2) := by decide +kernel
theorem dX6_passedBy_60 : decode cX6_passedBy 60 = .ok (.iushr, 1) := by decide +kernel
theorem dX6_passedBy_61 : decode cX6_passedBy 61 = .ok (.bipush 8, 2) := by decide +kernel
theorem dX6_passedBy_63 : decode cX6_passedBy 63 = .ok (.irem, 1) := by decide +kernel
theorem dX6_passedBy_64 : decode cX6_passedBy 64 = .ok (.iaload, 1) := by decide +kernel
theorem dX6_passedBy_65 : decode cX6_passedBy 65 = .ok (.if_icmp .ge 6, 3) := by decide +kernel
theorem dX6_passedBy_68 : decode cX6_passedBy 68 = .ok (.iinc 4 1, 3) := by decide +kernel
theorem dX6_passedBy_71 : decode cX6_passedBy 71 = .ok (.iinc 5 1, 3) := by decide +kernel
theorem dX6_passedBy_74 : decode cX6_passedBy 74 = .ok (.goto (-44), 3) := by decide +kernel
theorem dX6_passedBy_77 : decode cX6_passedBy 77 = .ok (.iload 4, 2) := by decide +kernel
theorem dX6_passedBy_79 : decode cX6_passedBy 79 = .ok (.ireturn, 1) := by decide +kernel
theorem dX6_drawnOn_0 : decode cX6_drawnOn 0 = .ok (.iload_n 0, 1) := by decide +kernel
theorem dX6_drawnOn_1 : decode cX6_drawnOn 1 = .ok (.ldc_w 266, 3) := by decide +kernel
theorem dX6_drawnOn_4 : decode cX6_drawnOn 4 = .ok (.imul, 1) := by decide +kernel
theorem dX6_drawnOn_5 : decode cX6_drawnOn 5 = .ok (.sipush 12345, 3) := by decide +kernel
theorem dX6_drawnOn_8 : decode cX6_drawnOn 8 = .ok (.iadd, 1) := by decide +kernel
theorem dX6_drawnOn_9 : decode cX6_drawnOn 9 = .ok (.ireturn, 1) := by decide +kernel
theorem dX6_image_0 : decode cX6_image 0 = .ok (.aload_n 0, 1) := by decide +kernel
theorem dX6_image_1 : decode cX6_image 1 = .ok (.getfield 78, 3) := by decide +kernel
theorem dX6_image_4 : decode cX6_image 4 = .ok (.aload_n 0, 1) := by decide +kernel
theorem dX6_image_5 : decode cX6_image 5 = .ok (.getfield 74, 3) := by decide +kernel
theorem dX6_image_8 : decode cX6_image 8 = .ok (.invokevirtual 267, 3) := by decide +kernel
theorem dX6_image_11 : decode cX6_image 11 = .ok (.iconst 0, 1) := by decide +kernel
theorem dX6_image_12 : decode cX6_image 12 = .ok (.istore_n 1, 1) := by decide +kernel
theorem dX6_image_13 : decode cX6_image 13 = .ok (.iload_n 1, 1) := by decide +kernel
theorem dX6_image_14 : decode cX6_image 14 = .ok (.aload_n 0, 1) := by decide +kernel
theorem dX6_image_15 : decode cX6_image 15 = .ok (.getfield 116, 3) := by decide +kernel
theorem dX6_image_18 : decode cX6_image 18 = .ok (.if_icmp .ge 29, 3) := by decide +kernel
theorem dX6_image_21 : decode cX6_image 21 = .ok (.iload_n 1, 1) := by decide +kernel
theorem dX6_image_22 : decode cX6_image 22 = .ok (.iconst 5, 1) := by decide +kernel
theorem dX6_image_23 : decode cX6_image 23 = .ok (.if_icmp .ge 24, 3) := by decide +kernel
theorem dX6_image_26 : decode cX6_image 26 = .ok (.aload_n 0, 1) := by decide +kernel
theorem dX6_image_27 : decode cX6_image 27 = .ok (.getfield 28, 3) := by decide +kernel
theorem dX6_image_30 : decode cX6_image 30 = .ok (.iload_n 1, 1) := by decide +kernel
theorem dX6_image_31 : decode cX6_image 31 = .ok (.aaload, 1) := by decide +kernel
theorem dX6_image_32 : decode cX6_image 32 = .ok (.aload_n 0, 1) := by decide +kernel
theorem dX6_image_33 : decode cX6_image 33 = .ok (.getfield 24, 3) := by decide +kernel
theorem dX6_image_36 : decode cX6_image 36 = .ok (.iload_n 1, 1) := by decide +kernel
theorem dX6_image_37 : decode cX6_image 37 = .ok (.aaload, 1) := by decide +kernel
theorem dX6_image_38 : decode cX6_image 38 = .ok (.invokevirtual 270, 3) := by decide +kernel
theorem dX6_image_41 : decode cX6_image 41 = .ok (.iinc 1 1, 3) := by decide +kernel
theorem dX6_image_44 : decode cX6_image 44 = .ok (.goto (-31), 3) := by decide +kernel
theorem dX6_image_47 : decode cX6_image 47 = .ok (.aload_n 0, 1) := by decide +kernel
theorem dX6_image_48 : decode cX6_image 48 = .ok (.aload_n 0, 1) := by decide +kernel
theorem dX6_image_49 : decode cX6_image 49 = .ok (.getfield 116, 3) := by decide +kernel
theorem dX6_image_52 : decode cX6_image 52 = .ok (.putfield 31, 3) := by decide +kernel
theorem dX6_image_55 : decode cX6_image 55 = .ok (.aload_n 0, 1) := by decide +kernel
theorem dX6_image_56 : decode cX6_image 56 = .ok (.getfield 31, 3) := by decide +kernel
theorem dX6_image_59 : decode cX6_image 59 = .ok (.ireturn, 1) := by decide +kernel
theorem dX6_back_0 : decode cX6_back 0 = .ok (.aload_n 0, 1) := by decide +kernel
theorem dX6_back_1 : decode cX6_back 1 = .ok (.getfield 31, 3) := by decide +kernel
theorem dX6_back_4 : decode cX6_back 4 = .ok (.iconst (-1), 1) := by decide +kernel
theorem dX6_back_5 : decode cX6_back 5 = .ok (.if_icmp .ne 6, 3) := by decide +kernel
theorem dX6_back_8 : decode cX6_back 8 = .ok (.bipush (-3), 2) := by decide +kernel
theorem dX6_back_10 : decode cX6_back 10 = .ok (.ireturn, 1) := by decide +kernel
theorem dX6_back_11 : decode cX6_back 11 = .ok (.aload_n 0, 1) := by decide +kernel
theorem dX6_back_12 : decode cX6_back 12 = .ok (.getfield 74, 3) := by decide +kernel
theorem dX6_back_15 : decode cX6_back 15 = .ok (.aload_n 0, 1) := by decide +kernel
theorem dX6_back_16 : decode cX6_back 16 = .ok (.getfield 78, 3) := by decide +kernel
theorem dX6_back_19 : decode cX6_back 19 = .ok (.invokevirtual 267, 3) := by decide +kernel
theorem dX6_back_22 : decode cX6_back 22 = .ok (.iconst 0, 1) := by decide +kernel
theorem dX6_back_23 : decode cX6_back 23 = .ok (.istore_n 1, 1) := by decide +kernel
theorem dX6_back_24 : decode cX6_back 24 = .ok (.iload_n 1, 1) := by decide +kernel
theorem dX6_back_25 : decode cX6_back 25 = .ok (.aload_n 0, 1) := by decide +kernel
theorem dX6_back_26 : decode cX6_back 26 = .ok (.getfield 31, 3) := by decide +kernel
theorem dX6_back_29 : decode cX6_back 29 = .ok (.if_icmp .ge 29, 3) := by decide +kernel
theorem dX6_back_32 : decode cX6_back 32 = .ok (.iload_n 1, 1) := by decide +kernel
theorem dX6_back_33 : decode cX6_back 33 = .ok (.iconst 5, 1) := by decide +kernel
theorem dX6_back_34 : decode cX6_back 34 = .ok (.if_icmp .ge 24, 3) := by decide +kernel
theorem dX6_back_37 : decode cX6_back 37 = .ok (.aload_n 0, 1) := by decide +kernel
theorem dX6_back_38 : decode cX6_back 38 = .ok (.getfield 24, 3) := by decide +kernel
theorem dX6_back_41 : decode cX6_back 41 = .ok (.iload_n 1, 1) := by decide +kernel
theorem dX6_back_42 : decode cX6_back 42 = .ok (.aaload, 1) := by decide +kernel
theorem dX6_back_43 : decode cX6_back 43 = .ok (.aload_n 0, 1) := by decide +kernel
theorem dX6_back_44 : decode cX6_back 44 = .ok (.getfield 28, 3) := by decide +kernel
theorem dX6_back_47 : decode cX6_back 47 = .ok (.iload_n 1, 1) := by decide +kernel
theorem dX6_back_48 : decode cX6_back 48 = .ok (.aaload, 1) := by decide +kernel
theorem dX6_back_49 : decode cX6_back 49 = .ok (.invokevirtual 270, 3) := by decide +kernel
theorem dX6_back_52 : decode cX6_back 52 = .ok (.iinc 1 1, 3) := by decide +kernel
theorem dX6_back_55 : decode cX6_back 55 = .ok (.goto (-31), 3) := by decide +kernel
theorem dX6_back_58 : decode cX6_back 58 = .ok (.aload_n 0, 1) := by decide +kernel
theorem dX6_back_59 : decode cX6_back 59 = .ok (.aload_n 0, 1) := by decide +kernel
theorem dX6_back_60 : decode cX6_back 60 = .ok (.getfield 31, 3) := by decide +kernel
theorem dX6_back_63 : decode cX6_back 63 = .ok (.putfield 116, 3) := by decide +kernel
theorem dX6_back_66 : decode cX6_back 66 = .ok (.aload_n 0, 1) := by decide +kernel
theorem dX6_back_67 : decode cX6_back 67 = .ok (.getfield 116, 3) := by decide +kernel
theorem dX6_back_70 : decode cX6_back 70 = .ok (.ireturn, 1) := by decide +kernel
theorem dX6_count_0 : decode cX6_count 0 = .ok (.iload_n 1, 1) := by decide +kernel
theorem dX6_count_1 : decode cX6_count 1 = .ok (.tableswitch 90 0 6 #[43, 48, 56, 61, 66, 71, 79], 43) := by decide +kernel
theorem dX6_count_44 : decode cX6_count 44 = .ok (.aload_n 0, 1) := by decide +kernel
theorem dX6_count_45 : decode cX6_count 45 = .ok (.getfield 116, 3) := by decide +kernel
theorem dX6_count_48 : decode cX6_count 48 = .ok (.ireturn, 1) := by decide +kernel
theorem dX6_count_49 : decode cX6_count 49 = .ok (.aload_n 0, 1) := by decide +kernel
theorem dX6_count_50 : decode cX6_count 50 = .ok (.getfield 74, 3) := by decide +kernel
theorem dX6_count_53 : decode cX6_count 53 = .ok (.getfield 103, 3) := by decide +kernel
theorem dX6_count_56 : decode cX6_count 56 = .ok (.ireturn, 1) := by decide +kernel
theorem dX6_count_57 : decode cX6_count 57 = .ok (.aload_n 0, 1) := by decide +kernel
theorem dX6_count_58 : decode cX6_count 58 = .ok (.invokevirtual 176, 3) := by decide +kernel
theorem dX6_count_61 : decode cX6_count 61 = .ok (.ireturn, 1) := by decide +kernel
theorem dX6_count_62 : decode cX6_count 62 = .ok (.aload_n 0, 1) := by decide +kernel
theorem dX6_count_63 : decode cX6_count 63 = .ok (.invokevirtual 272, 3) := by decide +kernel
theorem dX6_count_66 : decode cX6_count 66 = .ok (.ireturn, 1) := by decide +kernel
theorem dX6_count_67 : decode cX6_count 67 = .ok (.aload_n 0, 1) := by decide +kernel
theorem dX6_count_68 : decode cX6_count 68 = .ok (.getfield 66, 3) := by decide +kernel
theorem dX6_count_71 : decode cX6_count 71 = .ok (.ireturn, 1) := by decide +kernel
theorem dX6_count_72 : decode cX6_count 72 = .ok (.aload_n 0, 1) := by decide +kernel
theorem dX6_count_73 : decode cX6_count 73 = .ok (.getfield 18, 3) := by decide +kernel
theorem dX6_count_76 : decode cX6_count 76 = .ok (.getfield 148, 3) := by decide +kernel
theorem dX6_count_79 : decode cX6_count 79 = .ok (.ireturn, 1) := by decide +kernel
theorem dX6_count_80 : decode cX6_count 80 = .ok (.aload_n 0, 1) := by decide +kernel
theorem dX6_count_81 : decode cX6_count 81 = .ok (.getfield 74, 3) := by decide +kernel
theorem dX6_count_84 : decode cX6_count 84 = .ok (.getfield 155, 3) := by decide +kernel
theorem dX6_count_87 : decode cX6_count 87 = .ok (.getfield 159, 3) := by decide +kernel
theorem dX6_count_90 : decode cX6_count 90 = .ok (.ireturn, 1) := by decide +kernel
theorem dX6_count_91 : decode cX6_count 91 = .ok (.bipush (-2), 2) := by decide +kernel
theorem dX6_count_93 : decode cX6_count 93 = .ok (.ireturn, 1) := by decide +kernel
theorem dX6_bumpsOfAll_0 : decode cX6_bumpsOfAll 0 = .ok (.iconst 0, 1) := by decide +kernel
theorem dX6_bumpsOfAll_1 : decode cX6_bumpsOfAll 1 = .ok (.istore_n 1, 1) := by decide +kernel
theorem dX6_bumpsOfAll_2 : decode cX6_bumpsOfAll 2 = .ok (.iconst 0, 1) := by decide +kernel
theorem dX6_bumpsOfAll_3 : decode cX6_bumpsOfAll 3 = .ok (.istore_n 2, 1) := by decide +kernel
theorem dX6_bumpsOfAll_4 : decode cX6_bumpsOfAll 4 = .ok (.iload_n 2, 1) := by decide +kernel
theorem dX6_bumpsOfAll_5 : decode cX6_bumpsOfAll 5 = .ok (.aload_n 0, 1) := by decide +kernel
theorem dX6_bumpsOfAll_6 : decode cX6_bumpsOfAll 6 = .ok (.getfield 116, 3) := by decide +kernel
theorem dX6_bumpsOfAll_9 : decode cX6_bumpsOfAll 9 = .ok (.if_icmp .ge 26, 3) := by decide +kernel
theorem dX6_bumpsOfAll_12 : decode cX6_bumpsOfAll 12 = .ok (.iload_n 2, 1) := by decide +kernel
theorem dX6_bumpsOfAll_13 : decode cX6_bumpsOfAll 13 = .ok (.iconst 5, 1) := by decide +kernel
theorem dX6_bumpsOfAll_14 : decode cX6_bumpsOfAll 14 = .ok (.if_icmp .ge 21, 3) := by decide +kernel
theorem dX6_bumpsOfAll_17 : decode cX6_bumpsOfAll 17 = .ok (.iload_n 1, 1) := by decide +kernel
theorem dX6_bumpsOfAll_18 : decode cX6_bumpsOfAll 18 = .ok (.aload_n 0, 1) := by decide +kernel
theorem dX6_bumpsOfAll_19 : decode cX6_bumpsOfAll 19 = .ok (.getfield 24, 3) := by decide +kernel
theorem dX6_bumpsOfAll_22 : decode cX6_bumpsOfAll 22 = .ok (.iload_n 2, 1) := by decide +kernel
theorem dX6_bumpsOfAll_23 : decode cX6_bumpsOfAll 23 = .ok (.aaload, 1) := by decide +kernel
theorem dX6_bumpsOfAll_24 : decode cX6_bumpsOfAll 24 = .ok (.getfield 275, 3) := by decide +kernel
theorem dX6_bumpsOfAll_27 : decode cX6_bumpsOfAll 27 = .ok (.iadd, 1) := by decide +kernel
theorem dX6_bumpsOfAll_28 : decode cX6_bumpsOfAll 28 = .ok (.istore_n 1, 1) := by decide +kernel
theorem dX6_bumpsOfAll_29 : decode cX6_bumpsOfAll 29 = .ok (.iinc 2 1, 3) := by decide +kernel
theorem dX6_bumpsOfAll_32 : decode cX6_bumpsOfAll 32 = .ok (.goto (-28), 3) := by decide +kernel
theorem dX6_bumpsOfAll_35 : decode cX6_bumpsOfAll 35 = .ok (.iload_n 1, 1) := by decide +kernel
theorem dX6_bumpsOfAll_36 : decode cX6_bumpsOfAll 36 = .ok (.ireturn, 1) := by decide +kernel
theorem dX6_sheet_0 : decode cX6_sheet 0 = .ok (.aload_n 0, 1) := by decide +kernel
theorem dX6_sheet_1 : decode cX6_sheet 1 = .ok (.iload_n 1, 1) := by decide +kernel
theorem dX6_sheet_2 : decode cX6_sheet 2 = .ok (.invokevirtual 222, 3) := by decide +kernel
theorem dX6_sheet_5 : decode cX6_sheet 5 = .ok (.astore 4, 2) := by decide +kernel
theorem dX6_sheet_7 : decode cX6_sheet 7 = .ok (.aload 4, 2) := by decide +kernel
theorem dX6_sheet_9 : decode cX6_sheet 9 = .ok (.ifnull 13, 3) := by decide +kernel
theorem dX6_sheet_12 : decode cX6_sheet 12 = .ok (.iload_n 2, 1) := by decide +kernel
theorem dX6_sheet_13 : decode cX6_sheet 13 = .ok (.iconst (-1), 1) := by decide +kernel
theorem dX6_sheet_14 : decode cX6_sheet 14 = .ok (.if_icmp .lt 8, 3) := by decide +kernel
theorem dX6_sheet_17 : decode cX6_sheet 17 = .ok (.iload_n 2, 1) := by decide +kernel
theorem dX6_sheet_18 : decode cX6_sheet 18 = .ok (.iconst 2, 1) := by decide +kernel
theorem dX6_sheet_19 : decode cX6_sheet 19 = .ok (.if_icmp .le 6, 3) := by decide +kernel
theorem dX6_sheet_22 : decode cX6_sheet 22 = .ok (.bipush (-2), 2) := by decide +kernel
theorem dX6_sheet_24 : decode cX6_sheet 24 = .ok (.ireturn, 1) := by decide +kernel
theorem dX6_sheet_25 : decode cX6_sheet 25 = .ok (.iload_n 2, 1) := by decide +kernel
theorem dX6_sheet_26 : decode cX6_sheet 26 = .ok (.iconst (-1), 1) := by decide +kernel
theorem dX6_sheet_27 : decode cX6_sheet 27 = .ok (.if_icmp .ne 12, 3) := by decide +kernel
theorem dX6_sheet_30 : decode cX6_sheet 30 = .ok (.aload 4, 2) := by decide +kernel
theorem dX6_sheet_32 : decode cX6_sheet 32 = .ok (.iconst (-1), 1) := by decide +kernel
theorem dX6_sheet_33 : decode cX6_sheet 33 = .ok (.iconst 0, 1) := by decide +kernel
theorem dX6_sheet_34 : decode cX6_sheet 34 = .ok (.invokevirtual 254, 3) := by decide +kernel
theorem dX6_sheet_37 : decode cX6_sheet 37 = .ok (.iconst 1, 1) := by decide +kernel
theorem dX6_sheet_38 : decode cX6_sheet 38 = .ok (.ireturn, 1) := by decide +kernel
theorem dX6_sheet_39 : decode cX6_sheet 39 = .ok (.iload_n 3, 1) := by decide +kernel
theorem dX6_sheet_40 : decode cX6_sheet 40 = .ok (.bipush 40, 2) := by decide +kernel
theorem dX6_sheet_42 : decode cX6_sheet 42 = .ok (.if_icmp .le 6, 3) := by decide +kernel
theorem dX6_sheet_45 : decode cX6_sheet 45 = .ok (.bipush (-2), 2) := by decide +kernel
theorem dX6_sheet_47 : decode cX6_sheet 47 = .ok (.ireturn, 1) := by decide +kernel
theorem dX6_sheet_48 : decode cX6_sheet 48 = .ok (.iload_n 3, 1) := by decide +kernel
theorem dX6_sheet_49 : decode cX6_sheet 49 = .ok (.ifCond .ge 6, 3) := by decide +kernel
theorem dX6_sheet_52 : decode cX6_sheet 52 = .ok (.bipush (-14), 2) := by decide +kernel
theorem dX6_sheet_54 : decode cX6_sheet 54 = .ok (.ireturn, 1) := by decide +kernel
theorem dX6_sheet_55 : decode cX6_sheet 55 = .ok (.aload 4, 2) := by decide +kernel
theorem dX6_sheet_57 : decode cX6_sheet 57 = .ok (.iload_n 2, 1) := by decide +kernel
theorem dX6_sheet_58 : decode cX6_sheet 58 = .ok (.iload_n 3, 1) := by decide +kernel
theorem dX6_sheet_59 : decode cX6_sheet 59 = .ok (.invokevirtual 254, 3) := by decide +kernel
theorem dX6_sheet_62 : decode cX6_sheet 62 = .ok (.iconst 1, 1) := by decide +kernel
theorem dX6_sheet_63 : decode cX6_sheet 63 = .ok (.ireturn, 1) := by decide +kernel
theorem dX6_cell_0 : decode cX6_cell 0 = .ok (.aload_n 0, 1) := by decide +kernel
theorem dX6_cell_1 : decode cX6_cell 1 = .ok (.iload_n 1, 1) := by decide +kernel
theorem dX6_cell_2 : decode cX6_cell 2 = .ok (.invokevirtual 222, 3) := by decide +kernel
theorem dX6_cell_5 : decode cX6_cell 5 = .ok (.astore 4, 2) := by decide +kernel
theorem dX6_cell_7 : decode cX6_cell 7 = .ok (.aload 4, 2) := by decide +kernel
theorem dX6_cell_9 : decode cX6_cell 9 = .ok (.ifnonnull 6, 3) := by decide +kernel
theorem dX6_cell_12 : decode cX6_cell 12 = .ok (.bipush (-2), 2) := by decide +kernel
theorem dX6_cell_14 : decode cX6_cell 14 = .ok (.ireturn, 1) := by decide +kernel
theorem dX6_cell_15 : decode cX6_cell 15 = .ok (.aload 4, 2) := by decide +kernel
theorem dX6_cell_17 : decode cX6_cell 17 = .ok (.getfield 229, 3) := by decide +kernel
theorem dX6_cell_20 : decode cX6_cell 20 = .ok (.iconst (-1), 1) := by decide +kernel
theorem dX6_cell_21 : decode cX6_cell 21 = .ok (.if_icmp .ne 6, 3) := by decide +kernel
theorem dX6_cell_24 : decode cX6_cell 24 = .ok (.bipush (-11), 2) := by decide +kernel
theorem dX6_cell_26 : decode cX6_cell 26 = .ok (.ireturn, 1) := by decide +kernel
theorem dX6_cell_27 : decode cX6_cell 27 = .ok (.aload 4, 2) := by decide +kernel
theorem dX6_cell_29 : decode cX6_cell 29 = .ok (.iload_n 2, 1) := by decide +kernel
theorem dX6_cell_30 : decode cX6_cell 30 = .ok (.invokevirtual 276, 3) := by decide +kernel
theorem dX6_cell_33 : decode cX6_cell 33 = .ok (.ifCond .ne 6, 3) := by decide +kernel
theorem dX6_cell_36 : decode cX6_cell 36 = .ok (.bipush (-12), 2) := by decide +kernel
theorem dX6_cell_38 : decode cX6_cell 38 = .ok (.ireturn, 1) := by decide +kernel
theorem dX6_cell_39 : decode cX6_cell 39 = .ok (.aload 4, 2) := by decide +kernel
theorem dX6_cell_41 : decode cX6_cell 41 = .ok (.iload_n 2, 1) := by decide +kernel
theorem dX6_cell_42 : decode cX6_cell 42 = .ok (.iload_n 3, 1) := by decide +kernel
theorem dX6_cell_43 : decode cX6_cell 43 = .ok (.invokevirtual 257, 3) := by decide +kernel
theorem dX6_cell_46 : decode cX6_cell 46 = .ok (.iconst 1, 1) := by decide +kernel
theorem dX6_cell_47 : decode cX6_cell 47 = .ok (.ireturn, 1) := by decide +kernel
theorem dX6_copy_0 : decode cX6_copy 0 = .ok (.aload_n 0, 1) := by decide +kernel
theorem dX6_copy_1 : decode cX6_copy 1 = .ok (.iload_n 1, 1) := by decide +kernel
theorem dX6_copy_2 : decode cX6_copy 2 = .ok (.invokevirtual 222, 3) := by decide +kernel
theorem dX6_copy_5 : decode cX6_copy 5 = .ok (.astore 6, 2) := by decide +kernel
theorem dX6_copy_7 : decode cX6_copy 7 = .ok (.aload_n 0, 1) := by decide +kernel
theorem dX6_copy_8 : decode cX6_copy 8 = .ok (.iload_n 3, 1) := by decide +kernel
theorem dX6_copy_9 : decode cX6_copy 9 = .ok (.invokevirtual 222, 3) := by decide +kernel
theorem dX6_copy_12 : decode cX6_copy 12 = .ok (.astore 7, 2) := by decide +kernel
theorem dX6_copy_14 : decode cX6_copy 14 = .ok (.aload 6, 2) := by decide +kernel
theorem dX6_copy_16 : decode cX6_copy 16 = .ok (.ifnull 8, 3) := by decide +kernel
theorem dX6_copy_19 : decode cX6_copy 19 = .ok (.aload 7, 2) := by decide +kernel
theorem dX6_copy_21 : decode cX6_copy 21 = .ok (.ifnonnull 6, 3) := by decide +kernel
theorem dX6_copy_24 : decode cX6_copy 24 = .ok (.bipush (-2), 2) := by decide +kernel
theorem dX6_copy_26 : decode cX6_copy 26 = .ok (.ireturn, 1) := by decide +kernel
theorem dX6_copy_27 : decode cX6_copy 27 = .ok (.aload 6, 2) := by decide +kernel
theorem dX6_copy_29 : decode cX6_copy 29 = .ok (.getfield 229, 3) := by decide +kernel
theorem dX6_copy_32 : decode cX6_copy 32 = .ok (.iconst (-1), 1) := by decide +kernel
theorem dX6_copy_33 : decode cX6_copy 33 = .ok (.if_icmp .eq 12, 3) := by decide +kernel
theorem dX6_copy_36 : decode cX6_copy 36 = .ok (.aload 7, 2) := by decide +kernel
theorem dX6_copy_38 : decode cX6_copy 38 = .ok (.getfield 229, 3) := by decide +kernel
theorem dX6_copy_41 : decode cX6_copy 41 = .ok (.iconst (-1), 1) := by decide +kernel
theorem dX6_copy_42 : decode cX6_copy 42 = .ok (.if_icmp .ne 6, 3) := by decide +kernel
theorem dX6_copy_45 : decode cX6_copy 45 = .ok (.bipush (-11), 2) := by decide +kernel
theorem dX6_copy_47 : decode cX6_copy 47 = .ok (.ireturn, 1) := by decide +kernel
theorem dX6_copy_48 : decode cX6_copy 48 = .ok (.aload 6, 2) := by decide +kernel
theorem dX6_copy_50 : decode cX6_copy 50 = .ok (.getfield 229, 3) := by decide +kernel
theorem dX6_copy_53 : decode cX6_copy 53 = .ok (.aload 7, 2) := by decide +kernel
theorem dX6_copy_55 : decode cX6_copy 55 = .ok (.getfield 229, 3) := by decide +kernel
theorem dX6_copy_58 : decode cX6_copy 58 = .ok (.if_icmp .eq 6, 3) := by decide +kernel
theorem dX6_copy_61 : decode cX6_copy 61 = .ok (.bipush (-13), 2) := by decide +kernel
theorem dX6_copy_63 : decode cX6_copy 63 = .ok (.ireturn, 1) := by decide +kernel
theorem dX6_copy_64 : decode cX6_copy 64 = .ok (.aload 6, 2) := by decide +kernel
theorem dX6_copy_66 : decode cX6_copy 66 = .ok (.iload_n 2, 1) := by decide +kernel
theorem dX6_copy_67 : decode cX6_copy 67 = .ok (.iload 5, 2) := by decide +kernel
theorem dX6_copy_69 : decode cX6_copy 69 = .ok (.invokevirtual 279, 3) := by decide +kernel
theorem dX6_copy_72 : decode cX6_copy 72 = .ok (.ifCond .eq 15, 3) := by decide +kernel
theorem dX6_copy_75 : decode cX6_copy 75 = .ok (.aload 7, 2) := by decide +kernel
theorem dX6_copy_77 : decode cX6_copy 77 = .ok (.iload 4, 2) := by decide +kernel
theorem dX6_copy_79 : decode cX6_copy 79 = .ok (.iload 5, 2) := by decide +kernel
theorem dX6_copy_81 : decode cX6_copy 81 = .ok (.invokevirtual 279, 3) := by decide +kernel
theorem dX6_copy_84 : decode cX6_copy 84 = .ok (.ifCond .ne 6, 3) := by decide +kernel
theorem dX6_copy_87 : decode cX6_copy 87 = .ok (.bipush (-12), 2) := by decide +kernel
theorem dX6_copy_89 : decode cX6_copy 89 = .ok (.ireturn, 1) := by decide +kernel
theorem dX6_copy_90 : decode cX6_copy 90 = .ok (.aload 6, 2) := by decide +kernel
theorem dX6_copy_92 : decode cX6_copy 92 = .ok (.getfield 283, 3) := by decide +kernel
theorem dX6_copy_95 : decode cX6_copy 95 = .ok (.iload_n 2, 1) := by decide +kernel
theorem dX6_copy_96 : decode cX6_copy 96 = .ok (.aload 7, 2) := by decide +kernel
theorem dX6_copy_98 : decode cX6_copy 98 = .ok (.getfield 283, 3) := by decide +kernel
theorem dX6_copy_101 : decode cX6_copy 101 = .ok (.iload 4, 2) := by decide +kernel
theorem dX6_copy_103 : decode cX6_copy 103 = .ok (.iload 5, 2) := by decide +kernel
theorem dX6_copy_105 : decode cX6_copy 105 = .ok (.invokestatic 286, 3) := by decide +kernel
theorem dX6_copy_108 : decode cX6_copy 108 = .ok (.iload 5, 2) := by decide +kernel
theorem dX6_copy_110 : decode cX6_copy 110 = .ok (.ireturn, 1) := by decide +kernel
theorem dX6_learners_0 : decode cX6_learners 0 = .ok (.aload_n 0, 1) := by decide +kernel
theorem dX6_learners_1 : decode cX6_learners 1 = .ok (.iload_n 1, 1) := by decide +kernel
theorem dX6_learners_2 : decode cX6_learners 2 = .ok (.invokevirtual 222, 3) := by decide +kernel
theorem dX6_learners_5 : decode cX6_learners 5 = .ok (.astore 5, 2) := by decide +kernel
theorem dX6_learners_7 : decode cX6_learners 7 = .ok (.aload 5, 2) := by decide +kernel
theorem dX6_learners_9 : decode cX6_learners 9 = .ok (.ifnull 23, 3) := by decide +kernel
theorem dX6_learners_12 : decode cX6_learners 12 = .ok (.iload_n 2, 1) := by decide +kernel
theorem dX6_learners_13 : decode cX6_learners 13 = .ok (.ifCond .lt 19, 3) := by decide +kernel
theorem dX6_learners_16 : decode cX6_learners 16 = .ok (.iload_n 2, 1) := by decide +kernel
theorem dX6_learners_17 : decode cX6_learners 17 = .ok (.iconst 2, 1) := by decide +kernel
theorem dX6_learners_18 : decode cX6_learners 18 = .ok (.if_icmp .gt 14, 3) := by decide +kernel
theorem dX6_learners_21 : decode cX6_learners 21 = .ok (.iload 4, 2) := by decide +kernel
theorem dX6_learners_23 : decode cX6_learners 23 = .ok (.ifCond .lt 9, 3) := by decide +kernel
theorem dX6_learners_26 : decode cX6_learners 26 = .ok (.iload 4, 2) := by decide +kernel
theorem dX6_learners_28 : decode cX6_learners 28 = .ok (.iconst 5, 1) := by decide +kernel
theorem dX6_learners_29 : decode cX6_learners 29 = .ok (.if_icmp .le 6, 3) := by decide +kernel
theorem dX6_learners_32 : decode cX6_learners 32 = .ok (.bipush (-2), 2) := by decide +kernel
theorem dX6_learners_34 : decode cX6_learners 34 = .ok (.ireturn, 1) := by decide +kernel
theorem dX6_learners_35 : decode cX6_learners 35 = .ok (.aload 5, 2) := by decide +kernel
theorem dX6_learners_37 : decode cX6_learners 37 = .ok (.getfield 229, 3) := by decide +kernel
theorem dX6_learners_40 : decode cX6_learners 40 = .ok (.iconst (-1), 1) := by decide +kernel
theorem dX6_learners_41 : decode cX6_learners 41 = .ok (.if_icmp .ne 6, 3) := by decide +kernel
theorem dX6_learners_44 : decode cX6_learners 44 = .ok (.bipush (-11), 2) := by decide +kernel
theorem dX6_learners_46 : decode cX6_learners 46 = .ok (.ireturn, 1) := by decide +kernel
theorem dX6_learners_47 : decode cX6_learners 47 = .ok (.aload 5, 2) := by decide +kernel
theorem dX6_learners_49 : decode cX6_learners 49 = .ok (.getfield 229, 3) := by decide +kernel
theorem dX6_learners_52 : decode cX6_learners 52 = .ok (.iload_n 2, 1) := by decide +kernel
theorem dX6_learners_53 : decode cX6_learners 53 = .ok (.if_icmp .eq 6, 3) := by decide +kernel
theorem dX6_learners_56 : decode cX6_learners 56 = .ok (.bipush (-13), 2) := by decide +kernel
theorem dX6_learners_58 : decode cX6_learners 58 = .ok (.ireturn, 1) := by decide +kernel
theorem dX6_learners_59 : decode cX6_learners 59 = .ok (.iconst 0, 1) := by decide +kernel
theorem dX6_learners_60 : decode cX6_learners 60 = .ok (.istore 6, 2) := by decide +kernel
theorem dX6_learners_62 : decode cX6_learners 62 = .ok (.iload_n 3, 1) := by decide +kernel
theorem dX6_learners_63 : decode cX6_learners 63 = .ok (.istore 7, 2) := by decide +kernel
theorem dX6_learners_65 : decode cX6_learners 65 = .ok (.iconst 0, 1) := by decide +kernel
theorem dX6_learners_66 : decode cX6_learners 66 = .ok (.istore 8, 2) := by decide +kernel
theorem dX6_learners_68 : decode cX6_learners 68 = .ok (.iload 8, 2) := by decide +kernel
theorem dX6_learners_70 : decode cX6_learners 70 = .ok (.iload 4, 2) := by decide +kernel
theorem dX6_learners_72 : decode cX6_learners 72 = .ok (.if_icmp .ge 65, 3) := by decide +kernel
theorem dX6_learners_75 : decode cX6_learners 75 = .ok (.aload 5, 2) := by decide +kernel
theorem dX6_learners_77 : decode cX6_learners 77 = .ok (.iload 7, 2) := by decide +kernel
theorem dX6_learners_79 : decode cX6_learners 79 = .ok (.invokevirtual 276, 3) := by decide +kernel
theorem dX6_learners_82 : decode cX6_learners 82 = .ok (.ifCond .eq 15, 3) := by decide +kernel
theorem dX6_learners_85 : decode cX6_learners 85 = .ok (.aload 5, 2) := by decide +kernel
theorem dX6_learners_87 : decode cX6_learners 87 = .ok (.iload 7, 2) := by decide +kernel
theorem dX6_learners_89 : decode cX6_learners 89 = .ok (.iconst 1, 1) := by decide +kernel
theorem dX6_learners_90 : decode cX6_learners 90 = .ok (.iadd, 1) := by decide +kernel
theorem dX6_learners_91 : decode cX6_learners 91 = .ok (.invokevirtual 276, 3) := by decide +kernel
theorem dX6_learners_94 : decode cX6_learners 94 = .ok (.ifCond .ne 6, 3) := by decide +kernel
theorem dX6_learners_97 : decode cX6_learners 97 = .ok (.bipush (-12), 2) := by decide +kernel
theorem dX6_learners_99 : decode cX6_learners 99 = .ok (.ireturn, 1) := by decide +kernel
theorem dX6_learners_100 : decode cX6_learners 100 = .ok (.aload_n 0, 1) := by decide +kernel
theorem dX6_learners_101 : decode cX6_learners 101 = .ok (.aload 5, 2) := by decide +kernel
theorem dX6_learners_103 : decode cX6_learners 103 = .ok (.getfield 283, 3) := by decide +kernel
theorem dX6_learners_106 : decode cX6_learners 106 = .ok (.iload 7, 2) := by decide +kernel
theorem dX6_learners_108 : decode cX6_learners 108 = .ok (.iaload, 1) := by decide +kernel
theorem dX6_learners_109 : decode cX6_learners 109 = .ok (.aload 5, 2) := by decide +kernel
theorem dX6_learners_111 : decode cX6_learners 111 = .ok (.getfield 283, 3) := by decide +kernel
theorem dX6_learners_114 : decode cX6_learners 114 = .ok (.iload 7, 2) := by decide +kernel
theorem dX6_learners_116 : decode cX6_learners 116 = .ok (.iconst 1, 1) := by decide +kernel
theorem dX6_learners_117 : decode cX6_learners 117 = .ok (.iadd, 1) := by decide +kernel
theorem dX6_learners_118 : decode cX6_learners 118 = .ok (.iaload, 1) := by decide +kernel
theorem dX6_learners_119 : decode cX6_learners 119 = .ok (.invokevirtual 113, 3) := by decide +kernel
theorem dX6_learners_122 : decode cX6_learners 122 = .ok (.ifCond .lt 6, 3) := by decide +kernel
theorem dX6_learners_125 : decode cX6_learners 125 = .ok (.iinc 6 1, 3) := by decide +kernel
theorem dX6_learners_128 : decode cX6_learners 128 = .ok (.iinc 7 2, 3) := by decide +kernel
theorem dX6_learners_131 : decode cX6_learners 131 = .ok (.iinc 8 1, 3) := by decide +kernel
theorem dX6_learners_134 : decode cX6_learners 134 = .ok (.goto (-66), 3) := by decide +kernel
theorem dX6_learners_137 : decode cX6_learners 137 = .ok (.iload 6, 2) := by decide +kernel
theorem dX6_learners_139 : decode cX6_learners 139 = .ok (.ireturn, 1) := by decide +kernel
theorem dX6_taken_0 : decode cX6_taken 0 = .ok (.iload_n 2, 1) := by decide +kernel
theorem dX6_taken_1 : decode cX6_taken 1 = .ok (.ifCond .lt 9, 3) := by decide +kernel
theorem dX6_taken_4 : decode cX6_taken 4 = .ok (.iload_n 2, 1) := by decide +kernel
theorem dX6_taken_5 : decode cX6_taken 5 = .ok (.bipush 6, 2) := by decide +kernel
theorem dX6_taken_7 : decode cX6_taken 7 = .ok (.if_icmp .lt 6, 3) := by decide +kernel
theorem dX6_taken_10 : decode cX6_taken 10 = .ok (.bipush (-2), 2) := by decide +kernel
theorem dX6_taken_12 : decode cX6_taken 12 = .ok (.ireturn, 1) := by decide +kernel
theorem dX6_taken_13 : decode cX6_taken 13 = .ok (.aload_n 0, 1) := by decide +kernel
theorem dX6_taken_14 : decode cX6_taken 14 = .ok (.iload_n 1, 1) := by decide +kernel
theorem dX6_taken_15 : decode cX6_taken 15 = .ok (.invokevirtual 96, 3) := by decide +kernel
theorem dX6_taken_18 : decode cX6_taken 18 = .ok (.astore_n 3, 1) := by decide +kernel
theorem dX6_taken_19 : decode cX6_taken 19 = .ok (.aload_n 3, 1) := by decide +kernel
theorem dX6_taken_20 : decode cX6_taken 20 = .ok (.ifnonnull 6, 3) := by decide +kernel
theorem dX6_taken_23 : decode cX6_taken 23 = .ok (.bipush (-11), 2) := by decide +kernel
theorem dX6_taken_25 : decode cX6_taken 25 = .ok (.ireturn, 1) := by decide +kernel
theorem dX6_taken_26 : decode cX6_taken 26 = .ok (.aload_n 3, 1) := by decide +kernel
theorem dX6_taken_27 : decode cX6_taken 27 = .ok (.iload_n 2, 1) := by decide +kernel
theorem dX6_taken_28 : decode cX6_taken 28 = .ok (.invokevirtual 292, 3) := by decide +kernel
theorem dX6_taken_31 : decode cX6_taken 31 = .ok (.ifCond .eq 10, 3) := by decide +kernel
theorem dX6_taken_34 : decode cX6_taken 34 = .ok (.aload_n 3, 1) := by decide +kernel
theorem dX6_taken_35 : decode cX6_taken 35 = .ok (.getfield 252, 3) := by decide +kernel
theorem dX6_taken_38 : decode cX6_taken 38 = .ok (.goto 5, 3) := by decide +kernel
theorem dX6_taken_41 : decode cX6_taken 41 = .ok (.bipush (-13), 2) := by decide +kernel
theorem dX6_taken_43 : decode cX6_taken 43 = .ok (.ireturn, 1) := by decide +kernel
theorem dX6_pupilAt_0 : decode cX6_pupilAt 0 = .ok (.iload_n 1, 1) := by decide +kernel
theorem dX6_pupilAt_1 : decode cX6_pupilAt 1 = .ok (.ifCond .lt 25, 3) := by decide +kernel
theorem dX6_pupilAt_4 : decode cX6_pupilAt 4 = .ok (.iload_n 1, 1) := by decide +kernel
theorem dX6_pupilAt_5 : decode cX6_pupilAt 5 = .ok (.aload_n 0, 1) := by decide +kernel
theorem dX6_pupilAt_6 : decode cX6_pupilAt 6 = .ok (.getfield 116, 3) := by decide +kernel
theorem dX6_pupilAt_9 : decode cX6_pupilAt 9 = .ok (.if_icmp .ge 17, 3) := by decide +kernel
theorem dX6_pupilAt_12 : decode cX6_pupilAt 12 = .ok (.iload_n 1, 1) := by decide +kernel
theorem dX6_pupilAt_13 : decode cX6_pupilAt 13 = .ok (.iconst 5, 1) := by decide +kernel
theorem dX6_pupilAt_14 : decode cX6_pupilAt 14 = .ok (.if_icmp .ge 12, 3) := by decide +kernel
theorem dX6_pupilAt_17 : decode cX6_pupilAt 17 = .ok (.aload_n 0, 1) := by decide +kernel
theorem dX6_pupilAt_18 : decode cX6_pupilAt 18 = .ok (.getfield 24, 3) := by decide +kernel
theorem dX6_pupilAt_21 : decode cX6_pupilAt 21 = .ok (.iload_n 1, 1) := by decide +kernel
theorem dX6_pupilAt_22 : decode cX6_pupilAt 22 = .ok (.aaload, 1) := by decide +kernel
theorem dX6_pupilAt_23 : decode cX6_pupilAt 23 = .ok (.goto 4, 3) := by decide +kernel
theorem dX6_pupilAt_26 : decode cX6_pupilAt 26 = .ok (.aconst_null, 1) := by decide +kernel
theorem dX6_pupilAt_27 : decode cX6_pupilAt 27 = .ok (.areturn, 1) := by decide +kernel
theorem dX6_textAt_0 : decode cX6_textAt 0 = .ok (.iload_n 1, 1) := by decide +kernel
theorem dX6_textAt_1 : decode cX6_textAt 1 = .ok (.ifCond .lt 26, 3) := by decide +kernel
theorem dX6_textAt_4 : decode cX6_textAt 4 = .ok (.iload_n 1, 1) := by decide +kernel
theorem dX6_textAt_5 : decode cX6_textAt 5 = .ok (.aload_n 0, 1) := by decide +kernel
theorem dX6_textAt_6 : decode cX6_textAt 6 = .ok (.getfield 66, 3) := by decide +kernel
theorem dX6_textAt_9 : decode cX6_textAt 9 = .ok (.if_icmp .ge 18, 3) := by decide +kernel
theorem dX6_textAt_12 : decode cX6_textAt 12 = .ok (.iload_n 1, 1) := by decide +kernel
theorem dX6_textAt_13 : decode cX6_textAt 13 = .ok (.bipush 6, 2) := by decide +kernel
theorem dX6_textAt_15 : decode cX6_textAt 15 = .ok (.if_icmp .ge 12, 3) := by decide +kernel
theorem dX6_textAt_18 : decode cX6_textAt 18 = .ok (.aload_n 0, 1) := by decide +kernel
theorem dX6_textAt_19 : decode cX6_textAt 19 = .ok (.getfield 11, 3) := by decide +kernel
theorem dX6_textAt_22 : decode cX6_textAt 22 = .ok (.iload_n 1, 1) := by decide +kernel
theorem dX6_textAt_23 : decode cX6_textAt 23 = .ok (.aaload, 1) := by decide +kernel
theorem dX6_textAt_24 : decode cX6_textAt 24 = .ok (.goto 4, 3) := by decide +kernel
theorem dX6_textAt_27 : decode cX6_textAt 27 = .ok (.aconst_null, 1) := by decide +kernel
theorem dX6_textAt_28 : decode cX6_textAt 28 = .ok (.areturn, 1) := by decide +kernel
theorem dX6_sheetAt_0 : decode cX6_sheetAt 0 = .ok (.iload_n 1, 1) := by decide +kernel
theorem dX6_sheetAt_1 : decode cX6_sheetAt 1 = .ok (.ifCond .lt 17, 3) := by decide +kernel
theorem dX6_sheetAt_4 : decode cX6_sheetAt 4 = .ok (.iload_n 1, 1) := by decide +kernel
theorem dX6_sheetAt_5 : decode cX6_sheetAt 5 = .ok (.iconst 4, 1) := by decide +kernel
theorem dX6_sheetAt_6 : decode cX6_sheetAt 6 = .ok (.if_icmp .ge 12, 3) := by decide +kernel
theorem dX6_sheetAt_9 : decode cX6_sheetAt 9 = .ok (.aload_n 0, 1) := by decide +kernel
theorem dX6_sheetAt_10 : decode cX6_sheetAt 10 = .ok (.getfield 37, 3) := by decide +kernel
theorem dX6_sheetAt_13 : decode cX6_sheetAt 13 = .ok (.iload_n 1, 1) := by decide +kernel
theorem dX6_sheetAt_14 : decode cX6_sheetAt 14 = .ok (.aaload, 1) := by decide +kernel
theorem dX6_sheetAt_15 : decode cX6_sheetAt 15 = .ok (.goto 4, 3) := by decide +kernel
theorem dX6_sheetAt_18 : decode cX6_sheetAt 18 = .ok (.aconst_null, 1) := by decide +kernel
theorem dX6_sheetAt_19 : decode cX6_sheetAt 19 = .ok (.areturn, 1) := by decide +kernel
theorem dX6_isStreet_0 : decode cX6_isStreet 0 = .ok (.iload_n 0, 1) := by decide +kernel
theorem dX6_isStreet_1 : decode cX6_isStreet 1 = .ok (.ifCond .lt 13, 3) := by decide +kernel
theorem dX6_isStreet_4 : decode cX6_isStreet 4 = .ok (.iload_n 0, 1) := by decide +kernel
theorem dX6_isStreet_5 : decode cX6_isStreet 5 = .ok (.bipush 8, 2) := by decide +kernel
theorem dX6_isStreet_7 : decode cX6_isStreet 7 = .ok (.if_icmp .ge 7, 3) := by decide +kernel
theorem dX6_isStreet_10 : decode cX6_isStreet 10 = .ok (.iconst 1, 1) := by decide +kernel
theorem dX6_isStreet_11 : decode cX6_isStreet 11 = .ok (.goto 4, 3) := by decide +kernel
theorem dX6_isStreet_14 : decode cX6_isStreet 14 = .ok (.iconst 0, 1) := by decide +kernel
theorem dX6_isStreet_15 : decode cX6_isStreet 15 = .ok (.ireturn, 1) := by decide +kernel
theorem dX6_isHelp_0 : decode cX6_isHelp 0 = .ok (.iload_n 0, 1) := by decide +kernel
theorem dX6_isHelp_1 : decode cX6_isHelp 1 = .ok (.ifCond .lt 12, 3) := by decide +kernel
theorem dX6_isHelp_4 : decode cX6_isHelp 4 = .ok (.iload_n 0, 1) := by decide +kernel
theorem dX6_isHelp_5 : decode cX6_isHelp 5 = .ok (.iconst 3, 1) := by decide +kernel
theorem dX6_isHelp_6 : decode cX6_isHelp 6 = .ok (.if_icmp .ge 7, 3) := by decide +kernel
theorem dX6_isHelp_9 : decode cX6_isHelp 9 = .ok (.iconst 1, 1) := by decide +kernel
theorem dX6_isHelp_10 : decode cX6_isHelp 10 = .ok (.goto 4, 3) := by decide +kernel
theorem dX6_isHelp_13 : decode cX6_isHelp 13 = .ok (.iconst 0, 1) := by decide +kernel
theorem dX6_isHelp_14 : decode cX6_isHelp 14 = .ok (.ireturn, 1) := by decide +kernel
theorem dX6_isStreetHelp_0 : decode cX6_isStreetHelp 0 = .ok (.iload_n 0, 1) := by decide +kernel
theorem dX6_isStreetHelp_1 : decode cX6_isStreetHelp 1 = .ok (.ifCond .lt 27, 3) := by decide +kernel
theorem dX6_isStreetHelp_4 : decode cX6_isStreetHelp 4 = .ok (.iload_n 0, 1) := by decide +kernel
theorem dX6_isStreetHelp_5 : decode cX6_isStreetHelp 5 = .ok (.bipush 10, 2) := by decide +kernel
theorem dX6_isStreetHelp_7 : decode cX6_isStreetHelp 7 = .ok (.idiv, 1) := by decide +kernel
theorem dX6_isStreetHelp_8 : decode cX6_isStreetHelp 8 = .ok (.invokestatic 106, 3) := by decide +kernel
theorem dX6_isStreetHelp_11 : decode cX6_isStreetHelp 11 = .ok (.ifCond .eq 17, 3) := by decide +kernel
theorem dX6_isStreetHelp_14 : decode cX6_isStreetHelp 14 = .ok (.iload_n 0, 1) := by decide +kernel
theorem dX6_isStreetHelp_15 : decode cX6_isStreetHelp 15 = .ok (.bipush 10, 2) := by decide +kernel
theorem dX6_isStreetHelp_17 : decode cX6_isStreetHelp 17 = .ok (.irem, 1) := by decide +kernel
theorem dX6_isStreetHelp_18 : decode cX6_isStreetHelp 18 = .ok (.invokestatic 162, 3) := by decide +kernel
theorem dX6_isStreetHelp_21 : decode cX6_isStreetHelp 21 = .ok (.ifCond .eq 7, 3) := by decide +kernel
theorem dX6_isStreetHelp_24 : decode cX6_isStreetHelp 24 = .ok (.iconst 1, 1) := by decide +kernel
theorem dX6_isStreetHelp_25 : decode cX6_isStreetHelp 25 = .ok (.goto 4, 3) := by decide +kernel
theorem dX6_isStreetHelp_28 : decode cX6_isStreetHelp 28 = .ok (.iconst 0, 1) := by decide +kernel
theorem dX6_isStreetHelp_29 : decode cX6_isStreetHelp 29 = .ok (.ireturn, 1) := by decide +kernel
theorem dX6_bounded_0 : decode cX6_bounded 0 = .ok (.iload_n 1, 1) := by decide +kernel
theorem dX6_bounded_1 : decode cX6_bounded 1 = .ok (.iload_n 2, 1) := by decide +kernel
theorem dX6_bounded_2 : decode cX6_bounded 2 = .ok (.iload_n 0, 1) := by decide +kernel
theorem dX6_bounded_3 : decode cX6_bounded 3 = .ok (.invokestatic 295, 3) := by decide +kernel
theorem dX6_bounded_6 : decode cX6_bounded 6 = .ok (.invokestatic 300, 3) := by decide +kernel
theorem dX6_bounded_9 : decode cX6_bounded 9 = .ok (.ireturn, 1) := by decide +kernel
theorem dX6_inLowestTerms_0 : decode cX6_inLowestTerms 0 = .ok (.lload_n 0, 1) := by decide +kernel
theorem dX6_inLowestTerms_1 : decode cX6_inLowestTerms 1 = .ok (.lstore 5, 2) := by decide +kernel
theorem dX6_inLowestTerms_3 : decode cX6_inLowestTerms 3 = .ok (.lload_n 2, 1) := by decide +kernel
theorem dX6_inLowestTerms_4 : decode cX6_inLowestTerms 4 = .ok (.lstore 7, 2) := by decide +kernel
theorem dX6_inLowestTerms_6 : decode cX6_inLowestTerms 6 = .ok (.iconst 0, 1) := by decide +kernel
theorem dX6_inLowestTerms_7 : decode cX6_inLowestTerms 7 = .ok (.istore 9, 2) := by decide +kernel
theorem dX6_inLowestTerms_9 : decode cX6_inLowestTerms 9 = .ok (.iload 9, 2) := by decide +kernel
theorem dX6_inLowestTerms_11 : decode cX6_inLowestTerms 11 = .ok (.bipush 100, 2) := by decide +kernel
theorem dX6_inLowestTerms_13 : decode cX6_inLowestTerms 13 = .ok (.if_icmp .ge 31, 3) := by decide +kernel
theorem dX6_inLowestTerms_16 : decode cX6_inLowestTerms 16 = .ok (.lload 7, 2) := by decide +kernel
theorem dX6_inLowestTerms_18 : decode cX6_inLowestTerms 18 = .ok (.lconst 0, 1) := by decide +kernel
theorem dX6_inLowestTerms_19 : decode cX6_inLowestTerms 19 = .ok (.lcmp, 1) := by decide +kernel
theorem dX6_inLowestTerms_20 : decode cX6_inLowestTerms 20 = .ok (.ifCond .eq 24, 3) := by decide +kernel
theorem dX6_inLowestTerms_23 : decode cX6_inLowestTerms 23 = .ok (.lload 5, 2) := by decide +kernel
theorem dX6_inLowestTerms_25 : decode cX6_inLowestTerms 25 = .ok (.lload 7, 2) := by decide +kernel
theorem dX6_inLowestTerms_27 : decode cX6_inLowestTerms 27 = .ok (.lrem, 1) := by decide +kernel
theorem dX6_inLowestTerms_28 : decode cX6_inLowestTerms 28 = .ok (.lstore 10, 2) := by decide +kernel
theorem dX6_inLowestTerms_30 : decode cX6_inLowestTerms 30 = .ok (.lload 7, 2) := by decide +kernel
theorem dX6_inLowestTerms_32 : decode cX6_inLowestTerms 32 = .ok (.lstore 5, 2) := by decide +kernel
theorem dX6_inLowestTerms_34 : decode cX6_inLowestTerms 34 = .ok (.lload 10, 2) := by decide +kernel
theorem dX6_inLowestTerms_36 : decode cX6_inLowestTerms 36 = .ok (.lstore 7, 2) := by decide +kernel
theorem dX6_inLowestTerms_38 : decode cX6_inLowestTerms 38 = .ok (.iinc 9 1, 3) := by decide +kernel
theorem dX6_inLowestTerms_41 : decode cX6_inLowestTerms 41 = .ok (.goto (-32), 3) := by decide +kernel
theorem dX6_inLowestTerms_44 : decode cX6_inLowestTerms 44 = .ok (.lload 5, 2) := by decide +kernel
theorem dX6_inLowestTerms_46 : decode cX6_inLowestTerms 46 = .ok (.lconst 0, 1) := by decide +kernel
theorem dX6_inLowestTerms_47 : decode cX6_inLowestTerms 47 = .ok (.lcmp, 1) := by decide +kernel
theorem dX6_inLowestTerms_48 : decode cX6_inLowestTerms 48 = .ok (.ifCond .ne 7, 3) := by decide +kernel
theorem dX6_inLowestTerms_51 : decode cX6_inLowestTerms 51 = .ok (.ldc2_w 214, 3) := by decide +kernel
theorem dX6_inLowestTerms_54 : decode cX6_inLowestTerms 54 = .ok (.lreturn, 1) := by decide +kernel
theorem dX6_inLowestTerms_55 : decode cX6_inLowestTerms 55 = .ok (.iload 4, 2) := by decide +kernel
theorem dX6_inLowestTerms_57 : decode cX6_inLowestTerms 57 = .ok (.ifCond .ne 7, 3) := by decide +kernel
theorem dX6_inLowestTerms_60 : decode cX6_inLowestTerms 60 = .ok (.lload_n 0, 1) := by decide +kernel
theorem dX6_inLowestTerms_61 : decode cX6_inLowestTerms 61 = .ok (.goto 4, 3) := by decide +kernel
theorem dX6_inLowestTerms_64 : decode cX6_inLowestTerms 64 = .ok (.lload_n 2, 1) := by decide +kernel
theorem dX6_inLowestTerms_65 : decode cX6_inLowestTerms 65 = .ok (.lload 5, 2) := by decide +kernel
theorem dX6_inLowestTerms_67 : decode cX6_inLowestTerms 67 = .ok (.ldiv, 1) := by decide +kernel
theorem dX6_inLowestTerms_68 : decode cX6_inLowestTerms 68 = .ok (.lreturn, 1) := by decide +kernel
theorem dX7_in_0 : decode cX7_in 0 = .ok (.lload_n 0, 1) := by decide +kernel
theorem dX7_in_1 : decode cX7_in 1 = .ok (.lload_n 2, 1) := by decide +kernel
theorem dX7_in_2 : decode cX7_in 2 = .ok (.lcmp, 1) := by decide +kernel
theorem dX7_in_3 : decode cX7_in 3 = .ok (.ifCond .lt 14, 3) := by decide +kernel
theorem dX7_in_6 : decode cX7_in 6 = .ok (.lload_n 0, 1) := by decide +kernel
theorem dX7_in_7 : decode cX7_in 7 = .ok (.lload 4, 2) := by decide +kernel
theorem dX7_in_9 : decode cX7_in 9 = .ok (.lcmp, 1) := by decide +kernel
theorem dX7_in_10 : decode cX7_in 10 = .ok (.ifCond .gt 7, 3) := by decide +kernel
theorem dX7_in_13 : decode cX7_in 13 = .ok (.iconst 1, 1) := by decide +kernel
theorem dX7_in_14 : decode cX7_in 14 = .ok (.goto 4, 3) := by decide +kernel
theorem dX7_in_17 : decode cX7_in 17 = .ok (.iconst 0, 1) := by decide +kernel
theorem dX7_in_18 : decode cX7_in 18 = .ok (.ireturn, 1) := by decide +kernel
theorem dX7_within_0 : decode cX7_within 0 = .ok (.iload_n 0, 1) := by decide +kernel
theorem dX7_within_1 : decode cX7_within 1 = .ok (.iload_n 1, 1) := by decide +kernel
theorem dX7_within_2 : decode cX7_within 2 = .ok (.if_icmp .ge 7, 3) := by decide +kernel
theorem dX7_within_5 : decode cX7_within 5 = .ok (.iload_n 1, 1) := by decide +kernel
theorem dX7_within_6 : decode cX7_within 6 = .ok (.goto 13, 3) := by decide +kernel
theorem dX7_within_9 : decode cX7_within 9 = .ok (.iload_n 0, 1) := by decide +kernel
theorem dX7_within_10 : decode cX7_within 10 = .ok (.iload_n 2, 1) := by decide +kernel
theorem dX7_within_11 : decode cX7_within 11 = .ok (.if_icmp .le 7, 3) := by decide +kernel
theorem dX7_within_14 : decode cX7_within 14 = .ok (.iload_n 2, 1) := by decide +kernel
theorem dX7_within_15 : decode cX7_within 15 = .ok (.goto 4, 3) := by decide +kernel
theorem dX7_within_18 : decode cX7_within 18 = .ok (.iload_n 0, 1) := by decide +kernel
theorem dX7_within_19 : decode cX7_within 19 = .ok (.ireturn, 1) := by decide +kernel
section SIM
variable {p : Program} {l : Launch} {e : Env} {R : Room} {s : State} {m : MethodId} {args : Array Value} {below : List Frame} {meth : Method} {c : Code} {D : va_G} {cA : Nat → ClassId} {ad : Nat → Nat} {bs n0 z0 d : Nat} {H0 : Heap} {rv : Option Value} {hf : aM} {E : Nat → List Value → aM → Option Value → aM → Prop} {X : aXt × Value}

set_option maxHeartbeats 4000000 in
set_option maxRecDepth 20000 in
theorem sm_X6_test (hC : aC p s m args c cX6_test 10 RX6 D cA ad bs n0 H0 X) (hF : ∀ ml, ml ≤ 41 → aFit R d ml) (hRm : 16 ≤ R.frames ∧ 1000 ≤ R.locals) (hE : aCalls l D cA ad bs X d E) (hr : meth.sig.returnType = (some .long)) (hlk : meth.locks = false) : aSims (fun f i => aSim p l e R s m args below meth c (aEnd below s args D cA ad bs n0 z0 rv hf) 10 D cA ad bs n0 z0 H0 (apc pc_X6_test) rv hf E f i) (cd_X6_test) 0 := by
  unfold cd_X6_test
  refine aSims_c (i := 0) (s_aload_n hC dX6_test_0 rfl rfl) ?_
  refine aSims_c (i := 1) (s_iload_n hC dX6_test_1 rfl rfl) ?_
  refine aSims_c (i := 2) (s_callV (n := 1) hC dX6_test_2 rfl rfl (hE 103 _ _ _ _ rfl) (hF _ (by decide)) w_493 w_490 w_492 w_17 w_96 rfl (by decide +kernel)) ?_
  refine aSims_c (i := 3) (s_astore hC dX6_test_5 rfl rfl) ?_
  refine aSims_c (i := 4) (s_aload hC dX6_test_7 rfl rfl) ?_
  refine aSims_c (i := 5) (s_ifnull hC dX6_test_9 rfl rfl rfl) ?_
  refine aSims_c (i := 6) (s_iload_n hC dX6_test_12 rfl rfl) ?_
  refine aSims_c (i := 7) (s_if_lt hC dX6_test_13 rfl rfl rfl) ?_
  refine aSims_c (i := 8) (s_iload_n hC dX6_test_16 rfl rfl) ?_
  refine aSims_c (i := 9) (s_sipush hC dX6_test_17 rfl rfl rfl) ?_
  refine aSims_c (i := 10) (s_icmp_ge hC dX6_test_20 rfl rfl rfl) ?_
  refine aSims_c (i := 11) (s_iload_n hC dX6_test_23 rfl rfl) ?_
  refine aSims_c (i := 12) (s_if_lt hC dX6_test_24 rfl rfl rfl) ?_
  refine aSims_c (i := 13) (s_iload_n hC dX6_test_27 rfl rfl) ?_
  refine aSims_c (i := 14) (s_iconst hC dX6_test_28 rfl rfl rfl) ?_
  refine aSims_c (i := 15) (s_icmp_le hC dX6_test_29 rfl rfl rfl) ?_
  refine aSims_c (i := 16) (s_ldc2 hC dX6_test_32 w_721 rfl rfl) ?_
  refine aSims_c (i := 17) (s_lret hC dX6_test_35 rfl hr hlk) ?_
  refine aSims_c (i := 18) (s_lconst hC dX6_test_36 rfl rfl rfl) ?_
  refine aSims_c (i := 19) (s_lstore hC dX6_test_37 rfl rfl) ?_
  refine aSims_c (i := 20) (s_lconst hC dX6_test_39 rfl rfl rfl) ?_
  refine aSims_c (i := 21) (s_lstore hC dX6_test_40 rfl rfl) ?_
  refine aSims_c (i := 22) (s_iconst hC dX6_test_42 rfl rfl rfl) ?_
  refine aSims_c (i := 23) (s_istore hC dX6_test_43 rfl rfl) ?_
  refine aSims_c (i := 24) (s_iload hC dX6_test_45 rfl rfl) ?_
  refine aSims_c (i := 25) (s_bipush hC dX6_test_47 rfl rfl rfl) ?_
  refine aSims_c (i := 26) (s_icmp_ge hC dX6_test_49 rfl rfl rfl) ?_
  refine aSims_c (i := 27) (s_iload_n hC dX6_test_52 rfl rfl) ?_
  refine aSims_c (i := 28) (s_iload hC dX6_test_53 rfl rfl) ?_
  refine aSims_c (i := 29) (s_ishr hC dX6_test_55 rfl rfl) ?_
  refine aSims_c (i := 30) (s_iconst hC dX6_test_56 rfl rfl rfl) ?_
  refine aSims_c (i := 31) (s_iand hC dX6_test_57 rfl rfl) ?_
  refine aSims_c (i := 32) (s_iconst hC dX6_test_58 rfl rfl rfl) ?_
  refine aSims_c (i := 33) (s_icmp_ne hC dX6_test_59 rfl rfl rfl) ?_
  refine aSims_c (i := 34) (s_lload hC dX6_test_62 rfl rfl) ?_
  refine aSims_c (i := 35) (s_aload hC dX6_test_64 rfl rfl) ?_
  refine aSims_c (i := 36) (s_get hC dX6_test_66 rfl rfl w_198 rfl rfl inB0 (by decide)) ?_
  refine aSims_c (i := 37) (s_iload hC dX6_test_69 rfl rfl) ?_
  refine aSims_c (i := 38) (s_iaload hC hX0 dX6_test_71 rfl rfl) ?_
  refine aSims_c (i := 39) (s_i2l hC dX6_test_72 rfl rfl) ?_
  refine aSims_c (i := 40) (s_lmul hC dX6_test_73 rfl rfl) ?_
  refine aSims_c (i := 41) (s_lstore hC dX6_test_74 rfl rfl) ?_
  refine aSims_c (i := 42) (s_lload hC dX6_test_76 rfl rfl) ?_
  refine aSims_c (i := 43) (s_ldc2 hC dX6_test_78 w_722 rfl rfl) ?_
  refine aSims_c (i := 44) (s_lmul hC dX6_test_81 rfl rfl) ?_
  refine aSims_c (i := 45) (s_lstore hC dX6_test_82 rfl rfl) ?_
  refine aSims_c (i := 46) (s_iinc hC dX6_test_84 rfl rfl) ?_
  refine aSims_c (i := 47) (s_goto hC dX6_test_87 rfl rfl) ?_
  refine aSims_c (i := 48) (s_lload hC dX6_test_90 rfl rfl) ?_
  refine aSims_c (i := 49) (s_lload hC dX6_test_92 rfl rfl) ?_
  refine aSims_c (i := 50) (s_iload_n hC dX6_test_94 rfl rfl) ?_
  refine aSims_c (i := 51) (s_callS hC dX6_test_95 rfl rfl (hE 110 _ _ _ _ rfl) (hF _ (by decide)) w_725 w_723 w_724 w_96 (by decide +kernel)) ?_
  refine aSims_c (i := 52) (s_lret hC dX6_test_98 rfl hr hlk) ?_
  exact aSims_n
set_option maxHeartbeats 4000000 in
set_option maxRecDepth 20000 in
theorem sm_X6_tells (hC : aC p s m args c cX6_tells 14 RX6 D cA ad bs n0 H0 X) (hF : ∀ ml, ml ≤ 41 → aFit R d ml) (hRm : 16 ≤ R.frames ∧ 1000 ≤ R.locals) (hE : aCalls l D cA ad bs X d E) (hr : meth.sig.returnType = (some .int)) (hlk : meth.locks = false) : aSims (fun f i => aSim p l e R s m args below meth c (aEnd below s args D cA ad bs n0 z0 rv hf) 14 D cA ad bs n0 z0 H0 (apc pc_X6_tells) rv hf E f i) (cd_X6_tells) 0 := by
  unfold cd_X6_tells
  refine aSims_c (i := 0) (s_aload_n hC dX6_tells_0 rfl rfl) ?_
  refine aSims_c (i := 1) (s_iload_n hC dX6_tells_1 rfl rfl) ?_
  refine aSims_c (i := 2) (s_callV (n := 1) hC dX6_tells_2 rfl rfl (hE 105 _ _ _ _ rfl) (hF _ (by decide)) w_733 w_730 w_732 w_24 w_96 rfl (by decide +kernel)) ?_
  refine aSims_c (i := 3) (s_astore hC dX6_tells_5 rfl rfl) ?_
  refine aSims_c (i := 4) (s_aload_n hC dX6_tells_7 rfl rfl) ?_
  refine aSims_c (i := 5) (s_iload_n hC dX6_tells_8 rfl rfl) ?_
  refine aSims_c (i := 6) (s_callV (n := 1) hC dX6_tells_9 rfl rfl (hE 103 _ _ _ _ rfl) (hF _ (by decide)) w_493 w_490 w_492 w_17 w_96 rfl (by decide +kernel)) ?_
  refine aSims_c (i := 7) (s_astore hC dX6_tells_12 rfl rfl) ?_
  refine aSims_c (i := 8) (s_aload hC dX6_tells_14 rfl rfl) ?_
  refine aSims_c (i := 9) (s_ifnull hC dX6_tells_16 rfl rfl rfl) ?_
  refine aSims_c (i := 10) (s_aload hC dX6_tells_19 rfl rfl) ?_
  refine aSims_c (i := 11) (s_ifnull hC dX6_tells_21 rfl rfl rfl) ?_
  refine aSims_c (i := 12) (s_iload_n hC dX6_tells_24 rfl rfl) ?_
  refine aSims_c (i := 13) (s_callS hC dX6_tells_25 rfl rfl (hE 108 _ _ _ _ rfl) (hF _ (by decide)) w_736 w_734 w_735 w_96 (by decide +kernel)) ?_
  refine aSims_c (i := 14) (s_if_eq hC dX6_tells_28 rfl rfl rfl) ?_
  refine aSims_c (i := 15) (s_iload hC dX6_tells_31 rfl rfl) ?_
  refine aSims_c (i := 16) (s_if_lt hC dX6_tells_33 rfl rfl rfl) ?_
  refine aSims_c (i := 17) (s_iload hC dX6_tells_36 rfl rfl) ?_
  refine aSims_c (i := 18) (s_bipush hC dX6_tells_38 rfl rfl rfl) ?_
  refine aSims_c (i := 19) (s_icmp_le hC dX6_tells_40 rfl rfl rfl) ?_
  refine aSims_c (i := 20) (s_bipush hC dX6_tells_43 rfl rfl rfl) ?_
  refine aSims_c (i := 21) (s_iret hC dX6_tells_45 rfl hr hlk nar_qI) ?_
  refine aSims_c (i := 22) (s_aload hC dX6_tells_46 rfl rfl) ?_
  refine aSims_c (i := 23) (s_get hC dX6_tells_48 rfl rfl w_216 rfl rfl inB2 (by decide)) ?_
  refine aSims_c (i := 24) (s_iconst hC dX6_tells_51 rfl rfl rfl) ?_
  refine aSims_c (i := 25) (s_icmp_ne hC dX6_tells_52 rfl rfl rfl) ?_
  refine aSims_c (i := 26) (s_bipush hC dX6_tells_55 rfl rfl rfl) ?_
  refine aSims_c (i := 27) (s_iret hC dX6_tells_57 rfl hr hlk nar_qI) ?_
  refine aSims_c (i := 28) (s_iload_n hC dX6_tells_58 rfl rfl) ?_
  refine aSims_c (i := 29) (s_bipush hC dX6_tells_59 rfl rfl rfl) ?_
  refine aSims_c (i := 30) (s_idiv hC dX6_tells_61 rfl rfl) ?_
  refine aSims_c (i := 31) (s_istore hC dX6_tells_62 rfl rfl) ?_
  refine aSims_c (i := 32) (s_aload_n hC dX6_tells_64 rfl rfl) ?_
  refine aSims_c (i := 33) (s_iload hC dX6_tells_65 rfl rfl) ?_
  refine aSims_c (i := 34) (s_callV (n := 1) hC dX6_tells_67 rfl rfl (hE 87 _ _ _ _ rfl) (hF _ (by decide)) w_740 w_737 w_739 w_25 w_96 rfl (by decide +kernel)) ?_
  refine aSims_c (i := 35) (s_istore hC dX6_tells_70 rfl rfl) ?_
  refine aSims_c (i := 36) (s_iconst hC dX6_tells_72 rfl rfl rfl) ?_
  refine aSims_c (i := 37) (s_istore hC dX6_tells_73 rfl rfl) ?_
  refine aSims_c (i := 38) (s_iconst hC dX6_tells_75 rfl rfl rfl) ?_
  refine aSims_c (i := 39) (s_istore hC dX6_tells_76 rfl rfl) ?_
  refine aSims_c (i := 40) (s_iconst hC dX6_tells_78 rfl rfl rfl) ?_
  refine aSims_c (i := 41) (s_istore hC dX6_tells_79 rfl rfl) ?_
  refine aSims_c (i := 42) (s_iconst hC dX6_tells_81 rfl rfl rfl) ?_
  refine aSims_c (i := 43) (s_istore hC dX6_tells_82 rfl rfl) ?_
  refine aSims_c (i := 44) (s_iconst hC dX6_tells_84 rfl rfl rfl) ?_
  refine aSims_c (i := 45) (s_istore hC dX6_tells_85 rfl rfl) ?_
  refine aSims_c (i := 46) (s_iload hC dX6_tells_87 rfl rfl) ?_
  refine aSims_c (i := 47) (s_iload hC dX6_tells_89 rfl rfl) ?_
  refine aSims_c (i := 48) (s_icmp_ge hC dX6_tells_91 rfl rfl rfl) ?_
  refine aSims_c (i := 49) (s_aload_n hC dX6_tells_94 rfl rfl) ?_
  refine aSims_c (i := 50) (s_get hC dX6_tells_95 rfl rfl w_450 rfl rfl inB6 (by decide)) ?_
  refine aSims_c (i := 51) (s_aload_n hC dX6_tells_98 rfl rfl) ?_
  refine aSims_c (i := 52) (s_get hC dX6_tells_99 rfl rfl w_444 rfl rfl inB6 (by decide)) ?_
  refine aSims_c (i := 53) (s_aload hC dX6_tells_102 rfl rfl) ?_
  refine aSims_c (i := 54) (s_callV (n := 2) hC dX6_tells_104 rfl rfl (hE 44 _ _ _ _ rfl) (hF _ (by decide)) w_644 w_741 w_642 w_643 w_108 rfl (by decide +kernel)) ?_
  refine aSims_c (i := 55) (s_aload_n hC dX6_tells_107 rfl rfl) ?_
  refine aSims_c (i := 56) (s_iload hC dX6_tells_108 rfl rfl) ?_
  refine aSims_c (i := 57) (s_iload hC dX6_tells_110 rfl rfl) ?_
  refine aSims_c (i := 58) (s_iload hC dX6_tells_112 rfl rfl) ?_
  refine aSims_c (i := 59) (s_callV (n := 3) hC dX6_tells_114 rfl rfl (hE 88 _ _ _ _ rfl) (hF _ (by decide)) w_745 w_742 w_744 w_26 w_96 rfl (by decide +kernel)) ?_
  refine aSims_c (i := 60) (s_aload_n hC dX6_tells_117 rfl rfl) ?_
  refine aSims_c (i := 61) (s_get hC dX6_tells_118 rfl rfl w_450 rfl rfl inB6 (by decide)) ?_
  refine aSims_c (i := 62) (s_aload hC dX6_tells_121 rfl rfl) ?_
  refine aSims_c (i := 63) (s_iload hC dX6_tells_123 rfl rfl) ?_
  refine aSims_c (i := 64) (s_iload hC dX6_tells_125 rfl rfl) ?_
  refine aSims_c (i := 65) (s_iconst hC dX6_tells_127 rfl rfl rfl) ?_
  refine aSims_c (i := 66) (s_icmp_ne hC dX6_tells_128 rfl rfl rfl) ?_
  refine aSims_c (i := 67) (s_iload hC dX6_tells_131 rfl rfl) ?_
  refine aSims_c (i := 68) (s_goto hC dX6_tells_133 rfl rfl) ?_
  refine aSims_c (i := 69) (s_iload_n hC dX6_tells_136 rfl rfl) ?_
  refine aSims_c (i := 70) (s_bipush hC dX6_tells_137 rfl rfl rfl) ?_
  refine aSims_c (i := 71) (s_irem hC dX6_tells_139 rfl rfl) ?_
  refine aSims_c (i := 72) (s_callV (n := 3) hC dX6_tells_140 rfl rfl (hE 52 _ _ _ _ rfl) (hF _ (by decide)) w_749 w_746 w_747 w_748 w_108 rfl (by decide +kernel)) ?_
  refine aSims_c (i := 73) (s_istore hC dX6_tells_143 rfl rfl) ?_
  refine aSims_c (i := 74) (s_iload hC dX6_tells_145 rfl rfl) ?_
  refine aSims_c (i := 75) (s_iconst hC dX6_tells_147 rfl rfl rfl) ?_
  refine aSims_c (i := 76) (s_icmp_ne hC dX6_tells_148 rfl rfl rfl) ?_
  refine aSims_c (i := 77) (s_iload hC dX6_tells_151 rfl rfl) ?_
  refine aSims_c (i := 78) (s_iconst hC dX6_tells_153 rfl rfl rfl) ?_
  refine aSims_c (i := 79) (s_iload hC dX6_tells_154 rfl rfl) ?_
  refine aSims_c (i := 80) (s_ishl hC dX6_tells_156 rfl rfl) ?_
  refine aSims_c (i := 81) (s_ior hC dX6_tells_157 rfl rfl) ?_
  refine aSims_c (i := 82) (s_istore hC dX6_tells_158 rfl rfl) ?_
  refine aSims_c (i := 83) (s_iinc hC dX6_tells_160 rfl rfl) ?_
  refine aSims_c (i := 84) (s_iload hC dX6_tells_163 rfl rfl) ?_
  refine aSims_c (i := 85) (s_iconst hC dX6_tells_165 rfl rfl rfl) ?_
  refine aSims_c (i := 86) (s_icmp_ne hC dX6_tells_166 rfl rfl rfl) ?_
  refine aSims_c (i := 87) (s_iload hC dX6_tells_169 rfl rfl) ?_
  refine aSims_c (i := 88) (s_goto hC dX6_tells_171 rfl rfl) ?_
  refine aSims_c (i := 89) (s_iload hC dX6_tells_174 rfl rfl) ?_
  refine aSims_c (i := 90) (s_istore hC dX6_tells_176 rfl rfl) ?_
  refine aSims_c (i := 91) (s_iinc hC dX6_tells_178 rfl rfl) ?_
  refine aSims_c (i := 92) (s_goto hC dX6_tells_181 rfl rfl) ?_
  refine aSims_c (i := 93) (s_iload hC dX6_tells_184 rfl rfl) ?_
  refine aSims_c (i := 94) (s_switch hC dX6_tells_186 rfl rfl rfl rfl (aSw_in (by decide +kernel)) (fun j hj => anth_none hj)) ?_
  refine aSims_c (i := 95) (s_iload hC dX6_tells_232 rfl rfl) ?_
  refine aSims_c (i := 96) (s_iret hC dX6_tells_234 rfl hr hlk nar_qI) ?_
  refine aSims_c (i := 97) (s_iload hC dX6_tells_235 rfl rfl) ?_
  refine aSims_c (i := 98) (s_iret hC dX6_tells_237 rfl hr hlk nar_qI) ?_
  refine aSims_c (i := 99) (s_iload hC dX6_tells_238 rfl rfl) ?_
  refine aSims_c (i := 100) (s_iret hC dX6_tells_240 rfl hr hlk nar_qI) ?_
  refine aSims_c (i := 101) (s_iload hC dX6_tells_241 rfl rfl) ?_
  refine aSims_c (i := 102) (s_iret hC dX6_tells_243 rfl hr hlk nar_qI) ?_
  exact aSims_n
set_option maxHeartbeats 4000000 in
set_option maxRecDepth 20000 in
theorem sm_X6_guessesOf (hC : aC p s m args c cX6_guessesOf 2 RX6 D cA ad bs n0 H0 X) (hF : ∀ ml, ml ≤ 41 → aFit R d ml) (hRm : 16 ≤ R.frames ∧ 1000 ≤ R.locals) (hE : aCalls l D cA ad bs X d E) (hr : meth.sig.returnType = (some .int)) (hlk : meth.locks = false) : aSims (fun f i => aSim p l e R s m args below meth c (aEnd below s args D cA ad bs n0 z0 rv hf) 2 D cA ad bs n0 z0 H0 (apc pc_X6_guessesOf) rv hf E f i) (cd_X6_guessesOf) 0 := by
  unfold cd_X6_guessesOf
  refine aSims_c (i := 0) (s_iload_n hC dX6_guessesOf_0 rfl rfl) ?_
  refine aSims_c (i := 1) (s_switch hC dX6_guessesOf_1 rfl rfl rfl rfl (aSw_in (by decide +kernel)) (fun j hj => anth_none hj)) ?_
  refine aSims_c (i := 2) (s_iconst hC dX6_guessesOf_52 rfl rfl rfl) ?_
  refine aSims_c (i := 3) (s_iret hC dX6_guessesOf_53 rfl hr hlk nar_qI) ?_
  refine aSims_c (i := 4) (s_bipush hC dX6_guessesOf_54 rfl rfl rfl) ?_
  refine aSims_c (i := 5) (s_iret hC dX6_guessesOf_56 rfl hr hlk nar_qI) ?_
  refine aSims_c (i := 6) (s_bipush hC dX6_guessesOf_57 rfl rfl rfl) ?_
  refine aSims_c (i := 7) (s_iret hC dX6_guessesOf_59 rfl hr hlk nar_qI) ?_
  refine aSims_c (i := 8) (s_iconst hC dX6_guessesOf_60 rfl rfl rfl) ?_
  refine aSims_c (i := 9) (s_iret hC dX6_guessesOf_61 rfl hr hlk nar_qI) ?_
  refine aSims_c (i := 10) (s_aload_n hC dX6_guessesOf_62 rfl rfl) ?_
  refine aSims_c (i := 11) (s_get hC dX6_guessesOf_63 rfl rfl w_442 rfl rfl inB6 (by decide)) ?_
  refine aSims_c (i := 12) (s_iret hC dX6_guessesOf_66 rfl hr hlk nar_qI) ?_
  refine aSims_c (i := 13) (s_iload_n hC dX6_guessesOf_67 rfl rfl) ?_
  refine aSims_c (i := 14) (s_iconst hC dX6_guessesOf_68 rfl rfl rfl) ?_
  refine aSims_c (i := 15) (s_icmp_gt hC dX6_guessesOf_69 rfl rfl rfl) ?_
  refine aSims_c (i := 16) (s_bipush hC dX6_guessesOf_72 rfl rfl rfl) ?_
  refine aSims_c (i := 17) (s_goto hC dX6_guessesOf_74 rfl rfl) ?_
  refine aSims_c (i := 18) (s_bipush hC dX6_guessesOf_77 rfl rfl rfl) ?_
  refine aSims_c (i := 19) (s_iret hC dX6_guessesOf_79 rfl hr hlk nar_qI) ?_
  exact aSims_n
set_option maxHeartbeats 4000000 in
set_option maxRecDepth 20000 in
theorem sm_X6_suppose (hC : aC p s m args c cX6_suppose 5 RX6 D cA ad bs n0 H0 X) (hF : ∀ ml, ml ≤ 41 → aFit R d ml) (hRm : 16 ≤ R.frames ∧ 1000 ≤ R.locals) (hE : aCalls l D cA ad bs X d E) (hr : meth.sig.returnType = none) (hlk : meth.locks = false) : aSims (fun f i => aSim p l e R s m args below meth c (aEnd below s args D cA ad bs n0 z0 rv hf) 5 D cA ad bs n0 z0 H0 (apc pc_X6_suppose) rv hf E f i) (cd_X6_suppose) 0 := by
  unfold cd_X6_suppose
  refine aSims_c (i := 0) (s_iload_n hC dX6_suppose_0 rfl rfl) ?_
  refine aSims_c (i := 1) (s_iconst hC dX6_suppose_1 rfl rfl rfl) ?_
  refine aSims_c (i := 2) (s_icmp_ne hC dX6_suppose_2 rfl rfl rfl) ?_
  refine aSims_c (i := 3) (s_aload_n hC dX6_suppose_5 rfl rfl) ?_
  refine aSims_c (i := 4) (s_get hC dX6_suppose_6 rfl rfl w_450 rfl rfl inB6 (by decide)) ?_
  refine aSims_c (i := 5) (s_get hC dX6_suppose_9 rfl rfl w_420 rfl rfl inB4 (by decide)) ?_
  refine aSims_c (i := 6) (s_iload_n hC dX6_suppose_12 rfl rfl) ?_
  refine aSims_c (i := 7) (s_put hC dX6_suppose_13 rfl rfl w_185 rfl rfl inB0 tyX0_ok nmX0 (by decide) rfl) ?_
  refine aSims_c (i := 8) (s_goto hC dX6_suppose_16 rfl rfl) ?_
  refine aSims_c (i := 9) (s_iload_n hC dX6_suppose_19 rfl rfl) ?_
  refine aSims_c (i := 10) (s_iconst hC dX6_suppose_20 rfl rfl rfl) ?_
  refine aSims_c (i := 11) (s_icmp_ne hC dX6_suppose_21 rfl rfl rfl) ?_
  refine aSims_c (i := 12) (s_aload_n hC dX6_suppose_24 rfl rfl) ?_
  refine aSims_c (i := 13) (s_get hC dX6_suppose_25 rfl rfl w_450 rfl rfl inB6 (by decide)) ?_
  refine aSims_c (i := 14) (s_get hC dX6_suppose_28 rfl rfl w_420 rfl rfl inB4 (by decide)) ?_
  refine aSims_c (i := 15) (s_iload_n hC dX6_suppose_31 rfl rfl) ?_
  refine aSims_c (i := 16) (s_put hC dX6_suppose_32 rfl rfl w_188 rfl rfl inB0 tyX0_ok nmX0 (by decide) rfl) ?_
  refine aSims_c (i := 17) (s_goto hC dX6_suppose_35 rfl rfl) ?_
  refine aSims_c (i := 18) (s_iload_n hC dX6_suppose_38 rfl rfl) ?_
  refine aSims_c (i := 19) (s_iconst hC dX6_suppose_39 rfl rfl rfl) ?_
  refine aSims_c (i := 20) (s_icmp_eq hC dX6_suppose_40 rfl rfl rfl) ?_
  refine aSims_c (i := 21) (s_iload_n hC dX6_suppose_43 rfl rfl) ?_
  refine aSims_c (i := 22) (s_iconst hC dX6_suppose_44 rfl rfl rfl) ?_
  refine aSims_c (i := 23) (s_icmp_ne hC dX6_suppose_45 rfl rfl rfl) ?_
  refine aSims_c (i := 24) (s_aload_n hC dX6_suppose_48 rfl rfl) ?_
  refine aSims_c (i := 25) (s_get hC dX6_suppose_49 rfl rfl w_450 rfl rfl inB6 (by decide)) ?_
  refine aSims_c (i := 26) (s_get hC dX6_suppose_52 rfl rfl w_420 rfl rfl inB4 (by decide)) ?_
  refine aSims_c (i := 27) (s_get hC dX6_suppose_55 rfl rfl w_198 rfl rfl inB0 (by decide)) ?_
  refine aSims_c (i := 28) (s_iload_n hC dX6_suppose_58 rfl rfl) ?_
  refine aSims_c (i := 29) (s_iload_n hC dX6_suppose_59 rfl rfl) ?_
  refine aSims_c (i := 30) (s_iastore hC dX6_suppose_60 rfl rfl) ?_
  refine aSims_c (i := 31) (s_goto hC dX6_suppose_61 rfl rfl) ?_
  refine aSims_c (i := 32) (s_iload_n hC dX6_suppose_64 rfl rfl) ?_
  refine aSims_c (i := 33) (s_bipush hC dX6_suppose_65 rfl rfl rfl) ?_
  refine aSims_c (i := 34) (s_icmp_eq hC dX6_suppose_67 rfl rfl rfl) ?_
  refine aSims_c (i := 35) (s_iload_n hC dX6_suppose_70 rfl rfl) ?_
  refine aSims_c (i := 36) (s_bipush hC dX6_suppose_71 rfl rfl rfl) ?_
  refine aSims_c (i := 37) (s_icmp_ne hC dX6_suppose_73 rfl rfl rfl) ?_
  refine aSims_c (i := 38) (s_aload_n hC dX6_suppose_76 rfl rfl) ?_
  refine aSims_c (i := 39) (s_get hC dX6_suppose_77 rfl rfl w_450 rfl rfl inB6 (by decide)) ?_
  refine aSims_c (i := 40) (s_get hC dX6_suppose_80 rfl rfl w_418 rfl rfl inB4 (by decide)) ?_
  refine aSims_c (i := 41) (s_get hC dX6_suppose_83 rfl rfl w_390 rfl rfl inB5 (by decide)) ?_
  refine aSims_c (i := 42) (s_iload_n hC dX6_suppose_86 rfl rfl) ?_
  refine aSims_c (i := 43) (s_iload_n hC dX6_suppose_87 rfl rfl) ?_
  refine aSims_c (i := 44) (s_iastore hC dX6_suppose_88 rfl rfl) ?_
  refine aSims_c (i := 45) (s_goto hC dX6_suppose_89 rfl rfl) ?_
  refine aSims_c (i := 46) (s_iload_n hC dX6_suppose_92 rfl rfl) ?_
  refine aSims_c (i := 47) (s_bipush hC dX6_suppose_93 rfl rfl rfl) ?_
  refine aSims_c (i := 48) (s_icmp_ne hC dX6_suppose_95 rfl rfl rfl) ?_
  refine aSims_c (i := 49) (s_aload_n hC dX6_suppose_98 rfl rfl) ?_
  refine aSims_c (i := 50) (s_iload_n hC dX6_suppose_99 rfl rfl) ?_
  refine aSims_c (i := 51) (s_callV (n := 1) hC dX6_suppose_100 rfl rfl (hE 104 _ _ _ _ rfl) (hF _ (by decide)) w_605 w_602 w_604 w_20 w_96 rfl (by decide +kernel)) ?_
  refine aSims_c (i := 52) (s_astore hC dX6_suppose_103 rfl rfl) ?_
  refine aSims_c (i := 53) (s_aload hC dX6_suppose_105 rfl rfl) ?_
  refine aSims_c (i := 54) (s_ifnull hC dX6_suppose_107 rfl rfl rfl) ?_
  refine aSims_c (i := 55) (s_aload_n hC dX6_suppose_110 rfl rfl) ?_
  refine aSims_c (i := 56) (s_get hC dX6_suppose_111 rfl rfl w_450 rfl rfl inB6 (by decide)) ?_
  refine aSims_c (i := 57) (s_get hC dX6_suppose_114 rfl rfl w_418 rfl rfl inB4 (by decide)) ?_
  refine aSims_c (i := 58) (s_aload hC dX6_suppose_117 rfl rfl) ?_
  refine aSims_c (i := 59) (s_put hC dX6_suppose_119 rfl rfl w_395 rfl rfl inB5 tyX5_ok nmX5 (by decide) rfl) ?_
  refine aSims_c (i := 60) (s_vret hC dX6_suppose_122 rfl hr hlk) ?_
  exact aSims_n
set_option maxHeartbeats 4000000 in
set_option maxRecDepth 20000 in
theorem sm_X6_film (hC : aC p s m args c cX6_film 9 RX6 D cA ad bs n0 H0 X) (hF : ∀ ml, ml ≤ 41 → aFit R d ml) (hRm : 16 ≤ R.frames ∧ 1000 ≤ R.locals) (hE : aCalls l D cA ad bs X d E) (hr : meth.sig.returnType = (some .int)) (hlk : meth.locks = false) : aSims (fun f i => aSim p l e R s m args below meth c (aEnd below s args D cA ad bs n0 z0 rv hf) 9 D cA ad bs n0 z0 H0 (apc pc_X6_film) rv hf E f i) (cd_X6_film) 0 := by
  unfold cd_X6_film
  refine aSims_c (i := 0) (s_aload_n hC dX6_film_0 rfl rfl) ?_
  refine aSims_c (i := 1) (s_iload_n hC dX6_film_1 rfl rfl) ?_
  refine aSims_c (i := 2) (s_callV (n := 1) hC dX6_film_2 rfl rfl (hE 105 _ _ _ _ rfl) (hF _ (by decide)) w_733 w_730 w_732 w_24 w_96 rfl (by decide +kernel)) ?_
  refine aSims_c (i := 3) (s_astore hC dX6_film_5 rfl rfl) ?_
  refine aSims_c (i := 4) (s_aload_n hC dX6_film_7 rfl rfl) ?_
  refine aSims_c (i := 5) (s_iload_n hC dX6_film_8 rfl rfl) ?_
  refine aSims_c (i := 6) (s_callV (n := 1) hC dX6_film_9 rfl rfl (hE 103 _ _ _ _ rfl) (hF _ (by decide)) w_493 w_490 w_492 w_17 w_96 rfl (by decide +kernel)) ?_
  refine aSims_c (i := 7) (s_astore hC dX6_film_12 rfl rfl) ?_
  refine aSims_c (i := 8) (s_aload hC dX6_film_14 rfl rfl) ?_
  refine aSims_c (i := 9) (s_ifnull hC dX6_film_16 rfl rfl rfl) ?_
  refine aSims_c (i := 10) (s_aload hC dX6_film_19 rfl rfl) ?_
  refine aSims_c (i := 11) (s_ifnull hC dX6_film_21 rfl rfl rfl) ?_
  refine aSims_c (i := 12) (s_iload_n hC dX6_film_24 rfl rfl) ?_
  refine aSims_c (i := 13) (s_callS hC dX6_film_25 rfl rfl (hE 108 _ _ _ _ rfl) (hF _ (by decide)) w_736 w_734 w_735 w_96 (by decide +kernel)) ?_
  refine aSims_c (i := 14) (s_if_eq hC dX6_film_28 rfl rfl rfl) ?_
  refine aSims_c (i := 15) (s_iload hC dX6_film_31 rfl rfl) ?_
  refine aSims_c (i := 16) (s_if_lt hC dX6_film_33 rfl rfl rfl) ?_
  refine aSims_c (i := 17) (s_iload hC dX6_film_36 rfl rfl) ?_
  refine aSims_c (i := 18) (s_bipush hC dX6_film_38 rfl rfl rfl) ?_
  refine aSims_c (i := 19) (s_icmp_le hC dX6_film_40 rfl rfl rfl) ?_
  refine aSims_c (i := 20) (s_bipush hC dX6_film_43 rfl rfl rfl) ?_
  refine aSims_c (i := 21) (s_iret hC dX6_film_45 rfl hr hlk nar_qI) ?_
  refine aSims_c (i := 22) (s_iload_n hC dX6_film_46 rfl rfl) ?_
  refine aSims_c (i := 23) (s_bipush hC dX6_film_47 rfl rfl rfl) ?_
  refine aSims_c (i := 24) (s_idiv hC dX6_film_49 rfl rfl) ?_
  refine aSims_c (i := 25) (s_istore hC dX6_film_50 rfl rfl) ?_
  refine aSims_c (i := 26) (s_aload_n hC dX6_film_52 rfl rfl) ?_
  refine aSims_c (i := 27) (s_get hC dX6_film_53 rfl rfl w_450 rfl rfl inB6 (by decide)) ?_
  refine aSims_c (i := 28) (s_aload_n hC dX6_film_56 rfl rfl) ?_
  refine aSims_c (i := 29) (s_get hC dX6_film_57 rfl rfl w_444 rfl rfl inB6 (by decide)) ?_
  refine aSims_c (i := 30) (s_aload hC dX6_film_60 rfl rfl) ?_
  refine aSims_c (i := 31) (s_callV (n := 2) hC dX6_film_62 rfl rfl (hE 44 _ _ _ _ rfl) (hF _ (by decide)) w_644 w_741 w_642 w_643 w_108 rfl (by decide +kernel)) ?_
  refine aSims_c (i := 32) (s_aload hC dX6_film_65 rfl rfl) ?_
  refine aSims_c (i := 33) (s_iconst hC dX6_film_67 rfl rfl rfl) ?_
  refine aSims_c (i := 34) (s_iload hC dX6_film_68 rfl rfl) ?_
  refine aSims_c (i := 35) (s_callV (n := 2) hC dX6_film_70 rfl rfl (hE 31 _ _ _ _ rfl) (hF _ (by decide)) w_757 w_754 w_755 w_756 w_100 rfl (by decide +kernel)) ?_
  refine aSims_c (i := 36) (s_iconst hC dX6_film_73 rfl rfl rfl) ?_
  refine aSims_c (i := 37) (s_istore hC dX6_film_74 rfl rfl) ?_
  refine aSims_c (i := 38) (s_iload hC dX6_film_76 rfl rfl) ?_
  refine aSims_c (i := 39) (s_iload hC dX6_film_78 rfl rfl) ?_
  refine aSims_c (i := 40) (s_icmp_ge hC dX6_film_80 rfl rfl rfl) ?_
  refine aSims_c (i := 41) (s_aload_n hC dX6_film_83 rfl rfl) ?_
  refine aSims_c (i := 42) (s_get hC dX6_film_84 rfl rfl w_450 rfl rfl inB6 (by decide)) ?_
  refine aSims_c (i := 43) (s_get hC dX6_film_87 rfl rfl w_418 rfl rfl inB4 (by decide)) ?_
  refine aSims_c (i := 44) (s_aload_n hC dX6_film_90 rfl rfl) ?_
  refine aSims_c (i := 45) (s_get hC dX6_film_91 rfl rfl w_450 rfl rfl inB6 (by decide)) ?_
  refine aSims_c (i := 46) (s_get hC dX6_film_94 rfl rfl w_420 rfl rfl inB4 (by decide)) ?_
  refine aSims_c (i := 47) (s_iload hC dX6_film_97 rfl rfl) ?_
  refine aSims_c (i := 48) (s_iload_n hC dX6_film_99 rfl rfl) ?_
  refine aSims_c (i := 49) (s_bipush hC dX6_film_100 rfl rfl rfl) ?_
  refine aSims_c (i := 50) (s_irem hC dX6_film_102 rfl rfl) ?_
  refine aSims_c (i := 51) (s_callV (n := 3) hC dX6_film_103 rfl rfl (hE 63 _ _ _ _ rfl) (hF _ (by decide)) w_616 w_613 w_614 w_615 w_107 rfl (by decide +kernel)) ?_
  refine aSims_c (i := 52) (s_aload hC dX6_film_106 rfl rfl) ?_
  refine aSims_c (i := 53) (s_iload hC dX6_film_108 rfl rfl) ?_
  refine aSims_c (i := 54) (s_aload_n hC dX6_film_110 rfl rfl) ?_
  refine aSims_c (i := 55) (s_get hC dX6_film_111 rfl rfl w_450 rfl rfl inB6 (by decide)) ?_
  refine aSims_c (i := 56) (s_get hC dX6_film_114 rfl rfl w_420 rfl rfl inB4 (by decide)) ?_
  refine aSims_c (i := 57) (s_get hC dX6_film_117 rfl rfl w_198 rfl rfl inB0 (by decide)) ?_
  refine aSims_c (i := 58) (s_iload hC dX6_film_120 rfl rfl) ?_
  refine aSims_c (i := 59) (s_iaload hC hX0 dX6_film_122 rfl rfl) ?_
  refine aSims_c (i := 60) (s_callV (n := 2) hC dX6_film_123 rfl rfl (hE 34 _ _ _ _ rfl) (hF _ (by decide)) w_763 w_760 w_761 w_762 w_100 rfl (by decide +kernel)) ?_
  refine aSims_c (i := 61) (s_iinc hC dX6_film_126 rfl rfl) ?_
  refine aSims_c (i := 62) (s_goto hC dX6_film_129 rfl rfl) ?_
  refine aSims_c (i := 63) (s_iload hC dX6_film_132 rfl rfl) ?_
  refine aSims_c (i := 64) (s_iret hC dX6_film_134 rfl hr hlk nar_qI) ?_
  exact aSims_n
set_option maxHeartbeats 4000000 in
set_option maxRecDepth 20000 in
theorem sm_X6_drawn (hC : aC p s m args c cX6_drawn 4 RX6 D cA ad bs n0 H0 X) (hF : ∀ ml, ml ≤ 41 → aFit R d ml) (hRm : 16 ≤ R.frames ∧ 1000 ≤ R.locals) (hE : aCalls l D cA ad bs X d E) (hr : meth.sig.returnType = (some .int)) (hlk : meth.locks = false) : aSims (fun f i => aSim p l e R s m args below meth c (aEnd below s args D cA ad bs n0 z0 rv hf) 4 D cA ad bs n0 z0 H0 (apc pc_X6_drawn) rv hf E f i) (cd_X6_drawn) 0 := by
  unfold cd_X6_drawn
  refine aSims_c (i := 0) (s_aload_n hC dX6_drawn_0 rfl rfl) ?_
  refine aSims_c (i := 1) (s_iload_n hC dX6_drawn_1 rfl rfl) ?_
  refine aSims_c (i := 2) (s_callV (n := 1) hC dX6_drawn_2 rfl rfl (hE 103 _ _ _ _ rfl) (hF _ (by decide)) w_493 w_490 w_492 w_17 w_96 rfl (by decide +kernel)) ?_
  refine aSims_c (i := 3) (s_astore_n hC dX6_drawn_5 rfl rfl) ?_
  refine aSims_c (i := 4) (s_aload_n hC dX6_drawn_6 rfl rfl) ?_
  refine aSims_c (i := 5) (s_ifnonnull hC dX6_drawn_7 rfl rfl rfl) ?_
  refine aSims_c (i := 6) (s_bipush hC dX6_drawn_10 rfl rfl rfl) ?_
  refine aSims_c (i := 7) (s_goto hC dX6_drawn_12 rfl rfl) ?_
  refine aSims_c (i := 8) (s_iload_n hC dX6_drawn_15 rfl rfl) ?_
  refine aSims_c (i := 9) (s_aload_n hC dX6_drawn_16 rfl rfl) ?_
  refine aSims_c (i := 10) (s_callS hC dX6_drawn_17 rfl rfl (hE 92 _ _ _ _ rfl) (hF _ (by decide)) w_774 w_772 w_773 w_96 (by decide +kernel)) ?_
  refine aSims_c (i := 11) (s_iret hC dX6_drawn_20 rfl hr hlk nar_qI) ?_
  exact aSims_n
set_option maxHeartbeats 4000000 in
set_option maxRecDepth 20000 in
theorem sm_X6_chance (hC : aC p s m args c cX6_chance 8 RX6 D cA ad bs n0 H0 X) (hF : ∀ ml, ml ≤ 41 → aFit R d ml) (hRm : 16 ≤ R.frames ∧ 1000 ≤ R.locals) (hE : aCalls l D cA ad bs X d E) (hr : meth.sig.returnType = (some .long)) (hlk : meth.locks = false) : aSims (fun f i => aSim p l e R s m args below meth c (aEnd below s args D cA ad bs n0 z0 rv hf) 8 D cA ad bs n0 z0 H0 (apc pc_X6_chance) rv hf E f i) (cd_X6_chance) 0 := by
  unfold cd_X6_chance
  refine aSims_c (i := 0) (s_aload_n hC dX6_chance_0 rfl rfl) ?_
  refine aSims_c (i := 1) (s_iload_n hC dX6_chance_1 rfl rfl) ?_
  refine aSims_c (i := 2) (s_callV (n := 1) hC dX6_chance_2 rfl rfl (hE 103 _ _ _ _ rfl) (hF _ (by decide)) w_493 w_490 w_492 w_17 w_96 rfl (by decide +kernel)) ?_
  refine aSims_c (i := 3) (s_astore hC dX6_chance_5 rfl rfl) ?_
  refine aSims_c (i := 4) (s_aload hC dX6_chance_7 rfl rfl) ?_
  refine aSims_c (i := 5) (s_ifnull hC dX6_chance_9 rfl rfl rfl) ?_
  refine aSims_c (i := 6) (s_iload_n hC dX6_chance_12 rfl rfl) ?_
  refine aSims_c (i := 7) (s_iconst hC dX6_chance_13 rfl rfl rfl) ?_
  refine aSims_c (i := 8) (s_icmp_lt hC dX6_chance_14 rfl rfl rfl) ?_
  refine aSims_c (i := 9) (s_iload_n hC dX6_chance_17 rfl rfl) ?_
  refine aSims_c (i := 10) (s_bipush hC dX6_chance_18 rfl rfl rfl) ?_
  refine aSims_c (i := 11) (s_icmp_gt hC dX6_chance_20 rfl rfl rfl) ?_
  refine aSims_c (i := 12) (s_iload hC dX6_chance_23 rfl rfl) ?_
  refine aSims_c (i := 13) (s_if_lt hC dX6_chance_25 rfl rfl rfl) ?_
  refine aSims_c (i := 14) (s_iload hC dX6_chance_28 rfl rfl) ?_
  refine aSims_c (i := 15) (s_iconst hC dX6_chance_30 rfl rfl rfl) ?_
  refine aSims_c (i := 16) (s_icmp_le hC dX6_chance_31 rfl rfl rfl) ?_
  refine aSims_c (i := 17) (s_ldc2 hC dX6_chance_34 w_721 rfl rfl) ?_
  refine aSims_c (i := 18) (s_lret hC dX6_chance_37 rfl hr hlk) ?_
  refine aSims_c (i := 19) (s_iconst hC dX6_chance_38 rfl rfl rfl) ?_
  refine aSims_c (i := 20) (s_istore hC dX6_chance_39 rfl rfl) ?_
  refine aSims_c (i := 21) (s_iconst hC dX6_chance_41 rfl rfl rfl) ?_
  refine aSims_c (i := 22) (s_istore hC dX6_chance_42 rfl rfl) ?_
  refine aSims_c (i := 23) (s_iload hC dX6_chance_44 rfl rfl) ?_
  refine aSims_c (i := 24) (s_iload_n hC dX6_chance_46 rfl rfl) ?_
  refine aSims_c (i := 25) (s_icmp_ge hC dX6_chance_47 rfl rfl rfl) ?_
  refine aSims_c (i := 26) (s_iload_n hC dX6_chance_50 rfl rfl) ?_
  refine aSims_c (i := 27) (s_iload hC dX6_chance_51 rfl rfl) ?_
  refine aSims_c (i := 28) (s_iadd hC dX6_chance_53 rfl rfl) ?_
  refine aSims_c (i := 29) (s_aload hC dX6_chance_54 rfl rfl) ?_
  refine aSims_c (i := 30) (s_callS hC dX6_chance_56 rfl rfl (hE 92 _ _ _ _ rfl) (hF _ (by decide)) w_774 w_772 w_773 w_96 (by decide +kernel)) ?_
  refine aSims_c (i := 31) (s_iconst hC dX6_chance_59 rfl rfl rfl) ?_
  refine aSims_c (i := 32) (s_icmp_ne hC dX6_chance_60 rfl rfl rfl) ?_
  refine aSims_c (i := 33) (s_iinc hC dX6_chance_63 rfl rfl) ?_
  refine aSims_c (i := 34) (s_iinc hC dX6_chance_66 rfl rfl) ?_
  refine aSims_c (i := 35) (s_goto hC dX6_chance_69 rfl rfl) ?_
  refine aSims_c (i := 36) (s_iload hC dX6_chance_72 rfl rfl) ?_
  refine aSims_c (i := 37) (s_i2l hC dX6_chance_74 rfl rfl) ?_
  refine aSims_c (i := 38) (s_iload_n hC dX6_chance_75 rfl rfl) ?_
  refine aSims_c (i := 39) (s_i2l hC dX6_chance_76 rfl rfl) ?_
  refine aSims_c (i := 40) (s_iload hC dX6_chance_77 rfl rfl) ?_
  refine aSims_c (i := 41) (s_callS hC dX6_chance_79 rfl rfl (hE 110 _ _ _ _ rfl) (hF _ (by decide)) w_725 w_723 w_724 w_96 (by decide +kernel)) ?_
  refine aSims_c (i := 42) (s_lret hC dX6_chance_82 rfl hr hlk) ?_
  exact aSims_n
set_option maxHeartbeats 4000000 in
set_option maxRecDepth 20000 in
theorem sm_X6_passedBy (hC : aC p s m args c cX6_passedBy 6 RX6 D cA ad bs n0 H0 X) (hF : ∀ ml, ml ≤ 41 → aFit R d ml) (hRm : 16 ≤ R.frames ∧ 1000 ≤ R.locals) (hE : aCalls l D cA ad bs X d E) (hr : meth.sig.returnType = (some .int)) (hlk : meth.locks = false) : aSims (fun f i => aSim p l e R s m args below meth c (aEnd below s args D cA ad bs n0 z0 rv hf) 6 D cA ad bs n0 z0 H0 (apc pc_X6_passedBy) rv hf E f i) (cd_X6_passedBy) 0 := by
  unfold cd_X6_passedBy
  refine aSims_c (i := 0) (s_iload_n hC dX6_passedBy_0 rfl rfl) ?_
  refine aSims_c (i := 1) (s_istore_n hC dX6_passedBy_1 rfl rfl) ?_
  refine aSims_c (i := 2) (s_iload_n hC dX6_passedBy_2 rfl rfl) ?_
  refine aSims_c (i := 3) (s_istore_n hC dX6_passedBy_3 rfl rfl) ?_
  refine aSims_c (i := 4) (s_iconst hC dX6_passedBy_4 rfl rfl rfl) ?_
  refine aSims_c (i := 5) (s_istore hC dX6_passedBy_5 rfl rfl) ?_
  refine aSims_c (i := 6) (s_iload hC dX6_passedBy_7 rfl rfl) ?_
  refine aSims_c (i := 7) (s_iconst hC dX6_passedBy_9 rfl rfl rfl) ?_
  refine aSims_c (i := 8) (s_icmp_ge hC dX6_passedBy_10 rfl rfl rfl) ?_
  refine aSims_c (i := 9) (s_iload_n hC dX6_passedBy_13 rfl rfl) ?_
  refine aSims_c (i := 10) (s_callS hC dX6_passedBy_14 rfl rfl (hE 93 _ _ _ _ rfl) (hF _ (by decide)) w_777 w_775 w_776 w_96 (by decide +kernel)) ?_
  refine aSims_c (i := 11) (s_istore_n hC dX6_passedBy_17 rfl rfl) ?_
  refine aSims_c (i := 12) (s_iinc hC dX6_passedBy_18 rfl rfl) ?_
  refine aSims_c (i := 13) (s_goto hC dX6_passedBy_21 rfl rfl) ?_
  refine aSims_c (i := 14) (s_iconst hC dX6_passedBy_24 rfl rfl rfl) ?_
  refine aSims_c (i := 15) (s_istore hC dX6_passedBy_25 rfl rfl) ?_
  refine aSims_c (i := 16) (s_iconst hC dX6_passedBy_27 rfl rfl rfl) ?_
  refine aSims_c (i := 17) (s_istore hC dX6_passedBy_28 rfl rfl) ?_
  refine aSims_c (i := 18) (s_iload hC dX6_passedBy_30 rfl rfl) ?_
  refine aSims_c (i := 19) (s_iconst hC dX6_passedBy_32 rfl rfl rfl) ?_
  refine aSims_c (i := 20) (s_icmp_ge hC dX6_passedBy_33 rfl rfl rfl) ?_
  refine aSims_c (i := 21) (s_iload_n hC dX6_passedBy_36 rfl rfl) ?_
  refine aSims_c (i := 22) (s_callS hC dX6_passedBy_37 rfl rfl (hE 93 _ _ _ _ rfl) (hF _ (by decide)) w_777 w_775 w_776 w_96 (by decide +kernel)) ?_
  refine aSims_c (i := 23) (s_istore_n hC dX6_passedBy_40 rfl rfl) ?_
  refine aSims_c (i := 24) (s_iload_n hC dX6_passedBy_41 rfl rfl) ?_
  refine aSims_c (i := 25) (s_callS hC dX6_passedBy_42 rfl rfl (hE 93 _ _ _ _ rfl) (hF _ (by decide)) w_777 w_775 w_776 w_96 (by decide +kernel)) ?_
  refine aSims_c (i := 26) (s_istore_n hC dX6_passedBy_45 rfl rfl) ?_
  refine aSims_c (i := 27) (s_iload_n hC dX6_passedBy_46 rfl rfl) ?_
  refine aSims_c (i := 28) (s_bipush hC dX6_passedBy_47 rfl rfl rfl) ?_
  refine aSims_c (i := 29) (s_iushr hC dX6_passedBy_49 rfl rfl) ?_
  refine aSims_c (i := 30) (s_bipush hC dX6_passedBy_50 rfl rfl rfl) ?_
  refine aSims_c (i := 31) (s_irem hC dX6_passedBy_52 rfl rfl) ?_
  refine aSims_c (i := 32) (s_aload_n hC dX6_passedBy_53 rfl rfl) ?_
  refine aSims_c (i := 33) (s_get hC dX6_passedBy_54 rfl rfl w_198 rfl rfl inB0 (by decide)) ?_
  refine aSims_c (i := 34) (s_iload_n hC dX6_passedBy_57 rfl rfl) ?_
  refine aSims_c (i := 35) (s_bipush hC dX6_passedBy_58 rfl rfl rfl) ?_
  refine aSims_c (i := 36) (s_iushr hC dX6_passedBy_60 rfl rfl) ?_
  refine aSims_c (i := 37) (s_bipush hC dX6_passedBy_61 rfl rfl rfl) ?_
  refine aSims_c (i := 38) (s_irem hC dX6_passedBy_63 rfl rfl) ?_
  refine aSims_c (i := 39) (s_iaload hC hX0 dX6_passedBy_64 rfl rfl) ?_
  refine aSims_c (i := 40) (s_icmp_ge hC dX6_passedBy_65 rfl rfl rfl) ?_
  refine aSims_c (i := 41) (s_iinc hC dX6_passedBy_68 rfl rfl) ?_
  refine aSims_c (i := 42) (s_iinc hC dX6_passedBy_71 rfl rfl) ?_
  refine aSims_c (i := 43) (s_goto hC dX6_passedBy_74 rfl rfl) ?_
  refine aSims_c (i := 44) (s_iload hC dX6_passedBy_77 rfl rfl) ?_
  refine aSims_c (i := 45) (s_iret hC dX6_passedBy_79 rfl hr hlk nar_qI) ?_
  exact aSims_n
set_option maxHeartbeats 4000000 in
set_option maxRecDepth 20000 in
theorem sm_X6_drawnOn (hC : aC p s m args c cX6_drawnOn 1 RX6 D cA ad bs n0 H0 X) (hF : ∀ ml, ml ≤ 41 → aFit R d ml) (hRm : 16 ≤ R.frames ∧ 1000 ≤ R.locals) (hE : aCalls l D cA ad bs X d E) (hr : meth.sig.returnType = (some .int)) (hlk : meth.locks = false) : aSims (fun f i => aSim p l e R s m args below meth c (aEnd below s args D cA ad bs n0 z0 rv hf) 1 D cA ad bs n0 z0 H0 (apc pc_X6_drawnOn) rv hf E f i) (cd_X6_drawnOn) 0 := by
  unfold cd_X6_drawnOn
  refine aSims_c (i := 0) (s_iload_n hC dX6_drawnOn_0 rfl rfl) ?_
  refine aSims_c (i := 1) (s_ldcw hC dX6_drawnOn_1 w_778 rfl rfl) ?_
  refine aSims_c (i := 2) (s_imul hC dX6_drawnOn_4 rfl rfl) ?_
  refine aSims_c (i := 3) (s_sipush hC dX6_drawnOn_5 rfl rfl rfl) ?_
  refine aSims_c (i := 4) (s_iadd hC dX6_drawnOn_8 rfl rfl) ?_
  refine aSims_c (i := 5) (s_iret hC dX6_drawnOn_9 rfl hr hlk nar_qI) ?_
  exact aSims_n
set_option maxHeartbeats 4000000 in
set_option maxRecDepth 20000 in
theorem sm_X6_image (hC : aC p s m args c cX6_image 2 RX6 D cA ad bs n0 H0 X) (hF : ∀ ml, ml ≤ 41 → aFit R d ml) (hRm : 16 ≤ R.frames ∧ 1000 ≤ R.locals) (hE : aCalls l D cA ad bs X d E) (hr : meth.sig.returnType = (some .int)) (hlk : meth.locks = false) : aSims (fun f i => aSim p l e R s m args below meth c (aEnd below s args D cA ad bs n0 z0 rv hf) 2 D cA ad bs n0 z0 H0 (apc pc_X6_image) rv hf E f i) (cd_X6_image) 0 := by
  unfold cd_X6_image
  refine aSims_c (i := 0) (s_aload_n hC dX6_image_0 rfl rfl) ?_
  refine aSims_c (i := 1) (s_get hC dX6_image_1 rfl rfl w_447 rfl rfl inB6 (by decide)) ?_
  refine aSims_c (i := 2) (s_aload_n hC dX6_image_4 rfl rfl) ?_
  refine aSims_c (i := 3) (s_get hC dX6_image_5 rfl rfl w_444 rfl rfl inB6 (by decide)) ?_
  refine aSims_c (i := 4) (s_callV (n := 1) hC dX6_image_8 rfl rfl (hE 54 _ _ _ _ rfl) (hF _ (by decide)) w_648 w_787 w_646 w_647 w_107 rfl (by decide +kernel)) ?_
  refine aSims_c (i := 5) (s_iconst hC dX6_image_11 rfl rfl rfl) ?_
  refine aSims_c (i := 6) (s_istore_n hC dX6_image_12 rfl rfl) ?_
  refine aSims_c (i := 7) (s_iload_n hC dX6_image_13 rfl rfl) ?_
  refine aSims_c (i := 8) (s_aload_n hC dX6_image_14 rfl rfl) ?_
  refine aSims_c (i := 9) (s_get hC dX6_image_15 rfl rfl w_446 rfl rfl inB6 (by decide)) ?_
  refine aSims_c (i := 10) (s_icmp_ge hC dX6_image_18 rfl rfl rfl) ?_
  refine aSims_c (i := 11) (s_iload_n hC dX6_image_21 rfl rfl) ?_
  refine aSims_c (i := 12) (s_iconst hC dX6_image_22 rfl rfl rfl) ?_
  refine aSims_c (i := 13) (s_icmp_ge hC dX6_image_23 rfl rfl rfl) ?_
  refine aSims_c (i := 14) (s_aload_n hC dX6_image_26 rfl rfl) ?_
  refine aSims_c (i := 15) (s_get hC dX6_image_27 rfl rfl w_448 rfl rfl inB6 (by decide)) ?_
  refine aSims_c (i := 16) (s_iload_n hC dX6_image_30 rfl rfl) ?_
  refine aSims_c (i := 17) (s_aaload hC dX6_image_31 rfl rfl) ?_
  refine aSims_c (i := 18) (s_aload_n hC dX6_image_32 rfl rfl) ?_
  refine aSims_c (i := 19) (s_get hC dX6_image_33 rfl rfl w_445 rfl rfl inB6 (by decide)) ?_
  refine aSims_c (i := 20) (s_iload_n hC dX6_image_36 rfl rfl) ?_
  refine aSims_c (i := 21) (s_aaload hC dX6_image_37 rfl rfl) ?_
  refine aSims_c (i := 22) (s_callV (n := 1) hC dX6_image_38 rfl rfl (hE 2 _ _ _ _ rfl) (hF _ (by decide)) w_653 w_788 w_651 w_652 w_99 rfl (by decide +kernel)) ?_
  refine aSims_c (i := 23) (s_iinc hC dX6_image_41 rfl rfl) ?_
  refine aSims_c (i := 24) (s_goto hC dX6_image_44 rfl rfl) ?_
  refine aSims_c (i := 25) (s_aload_n hC dX6_image_47 rfl rfl) ?_
  refine aSims_c (i := 26) (s_aload_n hC dX6_image_48 rfl rfl) ?_
  refine aSims_c (i := 27) (s_get hC dX6_image_49 rfl rfl w_446 rfl rfl inB6 (by decide)) ?_
  refine aSims_c (i := 28) (s_put hC dX6_image_52 rfl rfl w_449 rfl rfl inB6 tyX6_ok nmX6 (by decide) rfl) ?_
  refine aSims_c (i := 29) (s_aload_n hC dX6_image_55 rfl rfl) ?_
  refine aSims_c (i := 30) (s_get hC dX6_image_56 rfl rfl w_449 rfl rfl inB6 (by decide)) ?_
  refine aSims_c (i := 31) (s_iret hC dX6_image_59 rfl hr hlk nar_qI) ?_
  exact aSims_n
set_option maxHeartbeats 4000000 in
set_option maxRecDepth 20000 in
theorem sm_X6_back (hC : aC p s m args c cX6_back 2 RX6 D cA ad bs n0 H0 X) (hF : ∀ ml, ml ≤ 41 → aFit R d ml) (hRm : 16 ≤ R.frames ∧ 1000 ≤ R.locals) (hE : aCalls l D cA ad bs X d E) (hr : meth.sig.returnType = (some .int)) (hlk : meth.locks = false) : aSims (fun f i => aSim p l e R s m args below meth c (aEnd below s args D cA ad bs n0 z0 rv hf) 2 D cA ad bs n0 z0 H0 (apc pc_X6_back) rv hf E f i) (cd_X6_back) 0 := by
  unfold cd_X6_back
  refine aSims_c (i := 0) (s_aload_n hC dX6_back_0 rfl rfl) ?_
  refine aSims_c (i := 1) (s_get hC dX6_back_1 rfl rfl w_449 rfl rfl inB6 (by decide)) ?_
  refine aSims_c (i := 2) (s_iconst hC dX6_back_4 rfl rfl rfl) ?_
  refine aSims_c (i := 3) (s_icmp_ne hC dX6_back_5 rfl rfl rfl) ?_
  refine aSims_c (i := 4) (s_bipush hC dX6_back_8 rfl rfl rfl) ?_
  refine aSims_c (i := 5) (s_iret hC dX6_back_10 rfl hr hlk nar_qI) ?_
  refine aSims_c (i := 6) (s_aload_n hC dX6_back_11 rfl rfl) ?_
  refine aSims_c (i := 7) (s_get hC dX6_back_12 rfl rfl w_444 rfl rfl inB6 (by decide)) ?_
  refine aSims_c (i := 8) (s_aload_n hC dX6_back_15 rfl rfl) ?_
  refine aSims_c (i := 9) (s_get hC dX6_back_16 rfl rfl w_447 rfl rfl inB6 (by decide)) ?_
  refine aSims_c (i := 10) (s_callV (n := 1) hC dX6_back_19 rfl rfl (hE 54 _ _ _ _ rfl) (hF _ (by decide)) w_648 w_787 w_646 w_647 w_107 rfl (by decide +kernel)) ?_
  refine aSims_c (i := 11) (s_iconst hC dX6_back_22 rfl rfl rfl) ?_
  refine aSims_c (i := 12) (s_istore_n hC dX6_back_23 rfl rfl) ?_
  refine aSims_c (i := 13) (s_iload_n hC dX6_back_24 rfl rfl) ?_
  refine aSims_c (i := 14) (s_aload_n hC dX6_back_25 rfl rfl) ?_
  refine aSims_c (i := 15) (s_get hC dX6_back_26 rfl rfl w_449 rfl rfl inB6 (by decide)) ?_
  refine aSims_c (i := 16) (s_icmp_ge hC dX6_back_29 rfl rfl rfl) ?_
  refine aSims_c (i := 17) (s_iload_n hC dX6_back_32 rfl rfl) ?_
  refine aSims_c (i := 18) (s_iconst hC dX6_back_33 rfl rfl rfl) ?_
  refine aSims_c (i := 19) (s_icmp_ge hC dX6_back_34 rfl rfl rfl) ?_
  refine aSims_c (i := 20) (s_aload_n hC dX6_back_37 rfl rfl) ?_
  refine aSims_c (i := 21) (s_get hC dX6_back_38 rfl rfl w_445 rfl rfl inB6 (by decide)) ?_
  refine aSims_c (i := 22) (s_iload_n hC dX6_back_41 rfl rfl) ?_
  refine aSims_c (i := 23) (s_aaload hC dX6_back_42 rfl rfl) ?_
  refine aSims_c (i := 24) (s_aload_n hC dX6_back_43 rfl rfl) ?_
  refine aSims_c (i := 25) (s_get hC dX6_back_44 rfl rfl w_448 rfl rfl inB6 (by decide)) ?_
  refine aSims_c (i := 26) (s_iload_n hC dX6_back_47 rfl rfl) ?_
  refine aSims_c (i := 27) (s_aaload hC dX6_back_48 rfl rfl) ?_
  refine aSims_c (i := 28) (s_callV (n := 1) hC dX6_back_49 rfl rfl (hE 2 _ _ _ _ rfl) (hF _ (by decide)) w_653 w_788 w_651 w_652 w_99 rfl (by decide +kernel)) ?_
  refine aSims_c (i := 29) (s_iinc hC dX6_back_52 rfl rfl) ?_
  refine aSims_c (i := 30) (s_goto hC dX6_back_55 rfl rfl) ?_
  refine aSims_c (i := 31) (s_aload_n hC dX6_back_58 rfl rfl) ?_
  refine aSims_c (i := 32) (s_aload_n hC dX6_back_59 rfl rfl) ?_
  refine aSims_c (i := 33) (s_get hC dX6_back_60 rfl rfl w_449 rfl rfl inB6 (by decide)) ?_
  refine aSims_c (i := 34) (s_put hC dX6_back_63 rfl rfl w_446 rfl rfl inB6 tyX6_ok nmX6 (by decide) rfl) ?_
  refine aSims_c (i := 35) (s_aload_n hC dX6_back_66 rfl rfl) ?_
  refine aSims_c (i := 36) (s_get hC dX6_back_67 rfl rfl w_446 rfl rfl inB6 (by decide)) ?_
  refine aSims_c (i := 37) (s_iret hC dX6_back_70 rfl hr hlk nar_qI) ?_
  exact aSims_n
set_option maxHeartbeats 4000000 in
set_option maxRecDepth 20000 in
theorem sm_X6_count (hC : aC p s m args c cX6_count 2 RX6 D cA ad bs n0 H0 X) (hF : ∀ ml, ml ≤ 41 → aFit R d ml) (hRm : 16 ≤ R.frames ∧ 1000 ≤ R.locals) (hE : aCalls l D cA ad bs X d E) (hr : meth.sig.returnType = (some .int)) (hlk : meth.locks = false) : aSims (fun f i => aSim p l e R s m args below meth c (aEnd below s args D cA ad bs n0 z0 rv hf) 2 D cA ad bs n0 z0 H0 (apc pc_X6_count) rv hf E f i) (cd_X6_count) 0 := by
  unfold cd_X6_count
  refine aSims_c (i := 0) (s_iload_n hC dX6_count_0 rfl rfl) ?_
  refine aSims_c (i := 1) (s_switch hC dX6_count_1 rfl rfl rfl rfl (aSw_in (by decide +kernel)) (fun j hj => anth_none hj)) ?_
  refine aSims_c (i := 2) (s_aload_n hC dX6_count_44 rfl rfl) ?_
  refine aSims_c (i := 3) (s_get hC dX6_count_45 rfl rfl w_446 rfl rfl inB6 (by decide)) ?_
  refine aSims_c (i := 4) (s_iret hC dX6_count_48 rfl hr hlk nar_qI) ?_
  refine aSims_c (i := 5) (s_aload_n hC dX6_count_49 rfl rfl) ?_
  refine aSims_c (i := 6) (s_get hC dX6_count_50 rfl rfl w_444 rfl rfl inB6 (by decide)) ?_
  refine aSims_c (i := 7) (s_get hC dX6_count_53 rfl rfl w_392 rfl rfl inB5 (by decide)) ?_
  refine aSims_c (i := 8) (s_iret hC dX6_count_56 rfl hr hlk nar_qI) ?_
  refine aSims_c (i := 9) (s_aload_n hC dX6_count_57 rfl rfl) ?_
  refine aSims_c (i := 10) (s_callV (n := 0) hC dX6_count_58 rfl rfl (hE 78 _ _ _ _ rfl) (hF _ (by decide)) w_632 w_629 w_631 w_21 w_96 rfl (by decide +kernel)) ?_
  refine aSims_c (i := 11) (s_iret hC dX6_count_61 rfl hr hlk nar_qI) ?_
  refine aSims_c (i := 12) (s_aload_n hC dX6_count_62 rfl rfl) ?_
  refine aSims_c (i := 13) (s_callV (n := 0) hC dX6_count_63 rfl rfl (hE 97 _ _ _ _ rfl) (hF _ (by decide)) w_800 w_797 w_799 w_27 w_96 rfl (by decide +kernel)) ?_
  refine aSims_c (i := 14) (s_iret hC dX6_count_66 rfl hr hlk nar_qI) ?_
  refine aSims_c (i := 15) (s_aload_n hC dX6_count_67 rfl rfl) ?_
  refine aSims_c (i := 16) (s_get hC dX6_count_68 rfl rfl w_442 rfl rfl inB6 (by decide)) ?_
  refine aSims_c (i := 17) (s_iret hC dX6_count_71 rfl hr hlk nar_qI) ?_
  refine aSims_c (i := 18) (s_aload_n hC dX6_count_72 rfl rfl) ?_
  refine aSims_c (i := 19) (s_get hC dX6_count_73 rfl rfl w_443 rfl rfl inB6 (by decide)) ?_
  refine aSims_c (i := 20) (s_get hC dX6_count_76 rfl rfl w_152 rfl rfl inB1 (by decide)) ?_
  refine aSims_c (i := 21) (s_iret hC dX6_count_79 rfl hr hlk nar_qI) ?_
  refine aSims_c (i := 22) (s_aload_n hC dX6_count_80 rfl rfl) ?_
  refine aSims_c (i := 23) (s_get hC dX6_count_81 rfl rfl w_444 rfl rfl inB6 (by decide)) ?_
  refine aSims_c (i := 24) (s_get hC dX6_count_84 rfl rfl w_395 rfl rfl inB5 (by decide)) ?_
  refine aSims_c (i := 25) (s_get hC dX6_count_87 rfl rfl w_134 rfl rfl inB3 (by decide)) ?_
  refine aSims_c (i := 26) (s_iret hC dX6_count_90 rfl hr hlk nar_qI) ?_
  refine aSims_c (i := 27) (s_bipush hC dX6_count_91 rfl rfl rfl) ?_
  refine aSims_c (i := 28) (s_iret hC dX6_count_93 rfl hr hlk nar_qI) ?_
  exact aSims_n
set_option maxHeartbeats 4000000 in
set_option maxRecDepth 20000 in
theorem sm_X6_bumpsOfAll (hC : aC p s m args c cX6_bumpsOfAll 3 RX6 D cA ad bs n0 H0 X) (hF : ∀ ml, ml ≤ 41 → aFit R d ml) (hRm : 16 ≤ R.frames ∧ 1000 ≤ R.locals) (hE : aCalls l D cA ad bs X d E) (hr : meth.sig.returnType = (some .int)) (hlk : meth.locks = false) : aSims (fun f i => aSim p l e R s m args below meth c (aEnd below s args D cA ad bs n0 z0 rv hf) 3 D cA ad bs n0 z0 H0 (apc pc_X6_bumpsOfAll) rv hf E f i) (cd_X6_bumpsOfAll) 0 := by
  unfold cd_X6_bumpsOfAll
  refine aSims_c (i := 0) (s_iconst hC dX6_bumpsOfAll_0 rfl rfl rfl) ?_
  refine aSims_c (i := 1) (s_istore_n hC dX6_bumpsOfAll_1 rfl rfl) ?_
  refine aSims_c (i := 2) (s_iconst hC dX6_bumpsOfAll_2 rfl rfl rfl) ?_
  refine aSims_c (i := 3) (s_istore_n hC dX6_bumpsOfAll_3 rfl rfl) ?_
  refine aSims_c (i := 4) (s_iload_n hC dX6_bumpsOfAll_4 rfl rfl) ?_
  refine aSims_c (i := 5) (s_aload_n hC dX6_bumpsOfAll_5 rfl rfl) ?_
  refine aSims_c (i := 6) (s_get hC dX6_bumpsOfAll_6 rfl rfl w_446 rfl rfl inB6 (by decide)) ?_
  refine aSims_c (i := 7) (s_icmp_ge hC dX6_bumpsOfAll_9 rfl rfl rfl) ?_
  refine aSims_c (i := 8) (s_iload_n hC dX6_bumpsOfAll_12 rfl rfl) ?_
  refine aSims_c (i := 9) (s_iconst hC dX6_bumpsOfAll_13 rfl rfl rfl) ?_
  refine aSims_c (i := 10) (s_icmp_ge hC dX6_bumpsOfAll_14 rfl rfl rfl) ?_
  refine aSims_c (i := 11) (s_iload_n hC dX6_bumpsOfAll_17 rfl rfl) ?_
  refine aSims_c (i := 12) (s_aload_n hC dX6_bumpsOfAll_18 rfl rfl) ?_
  refine aSims_c (i := 13) (s_get hC dX6_bumpsOfAll_19 rfl rfl w_445 rfl rfl inB6 (by decide)) ?_
  refine aSims_c (i := 14) (s_iload_n hC dX6_bumpsOfAll_22 rfl rfl) ?_
  refine aSims_c (i := 15) (s_aaload hC dX6_bumpsOfAll_23 rfl rfl) ?_
  refine aSims_c (i := 16) (s_get hC dX6_bumpsOfAll_24 rfl rfl w_194 rfl rfl inB0 (by decide)) ?_
  refine aSims_c (i := 17) (s_iadd hC dX6_bumpsOfAll_27 rfl rfl) ?_
  refine aSims_c (i := 18) (s_istore_n hC dX6_bumpsOfAll_28 rfl rfl) ?_
  refine aSims_c (i := 19) (s_iinc hC dX6_bumpsOfAll_29 rfl rfl) ?_
  refine aSims_c (i := 20) (s_goto hC dX6_bumpsOfAll_32 rfl rfl) ?_
  refine aSims_c (i := 21) (s_iload_n hC dX6_bumpsOfAll_35 rfl rfl) ?_
  refine aSims_c (i := 22) (s_iret hC dX6_bumpsOfAll_36 rfl hr hlk nar_qI) ?_
  exact aSims_n
set_option maxHeartbeats 4000000 in
set_option maxRecDepth 20000 in
theorem sm_X6_sheet (hC : aC p s m args c cX6_sheet 5 RX6 D cA ad bs n0 H0 X) (hF : ∀ ml, ml ≤ 41 → aFit R d ml) (hRm : 16 ≤ R.frames ∧ 1000 ≤ R.locals) (hE : aCalls l D cA ad bs X d E) (hr : meth.sig.returnType = (some .int)) (hlk : meth.locks = false) : aSims (fun f i => aSim p l e R s m args below meth c (aEnd below s args D cA ad bs n0 z0 rv hf) 5 D cA ad bs n0 z0 H0 (apc pc_X6_sheet) rv hf E f i) (cd_X6_sheet) 0 := by
  unfold cd_X6_sheet
  refine aSims_c (i := 0) (s_aload_n hC dX6_sheet_0 rfl rfl) ?_
  refine aSims_c (i := 1) (s_iload_n hC dX6_sheet_1 rfl rfl) ?_
  refine aSims_c (i := 2) (s_callV (n := 1) hC dX6_sheet_2 rfl rfl (hE 105 _ _ _ _ rfl) (hF _ (by decide)) w_733 w_730 w_732 w_24 w_96 rfl (by decide +kernel)) ?_
  refine aSims_c (i := 3) (s_astore hC dX6_sheet_5 rfl rfl) ?_
  refine aSims_c (i := 4) (s_aload hC dX6_sheet_7 rfl rfl) ?_
  refine aSims_c (i := 5) (s_ifnull hC dX6_sheet_9 rfl rfl rfl) ?_
  refine aSims_c (i := 6) (s_iload_n hC dX6_sheet_12 rfl rfl) ?_
  refine aSims_c (i := 7) (s_iconst hC dX6_sheet_13 rfl rfl rfl) ?_
  refine aSims_c (i := 8) (s_icmp_lt hC dX6_sheet_14 rfl rfl rfl) ?_
  refine aSims_c (i := 9) (s_iload_n hC dX6_sheet_17 rfl rfl) ?_
  refine aSims_c (i := 10) (s_iconst hC dX6_sheet_18 rfl rfl rfl) ?_
  refine aSims_c (i := 11) (s_icmp_le hC dX6_sheet_19 rfl rfl rfl) ?_
  refine aSims_c (i := 12) (s_bipush hC dX6_sheet_22 rfl rfl rfl) ?_
  refine aSims_c (i := 13) (s_iret hC dX6_sheet_24 rfl hr hlk nar_qI) ?_
  refine aSims_c (i := 14) (s_iload_n hC dX6_sheet_25 rfl rfl) ?_
  refine aSims_c (i := 15) (s_iconst hC dX6_sheet_26 rfl rfl rfl) ?_
  refine aSims_c (i := 16) (s_icmp_ne hC dX6_sheet_27 rfl rfl rfl) ?_
  refine aSims_c (i := 17) (s_aload hC dX6_sheet_30 rfl rfl) ?_
  refine aSims_c (i := 18) (s_iconst hC dX6_sheet_32 rfl rfl rfl) ?_
  refine aSims_c (i := 19) (s_iconst hC dX6_sheet_33 rfl rfl rfl) ?_
  refine aSims_c (i := 20) (s_callV (n := 2) hC dX6_sheet_34 rfl rfl (hE 31 _ _ _ _ rfl) (hF _ (by decide)) w_757 w_754 w_755 w_756 w_100 rfl (by decide +kernel)) ?_
  refine aSims_c (i := 21) (s_iconst hC dX6_sheet_37 rfl rfl rfl) ?_
  refine aSims_c (i := 22) (s_iret hC dX6_sheet_38 rfl hr hlk nar_qI) ?_
  refine aSims_c (i := 23) (s_iload_n hC dX6_sheet_39 rfl rfl) ?_
  refine aSims_c (i := 24) (s_bipush hC dX6_sheet_40 rfl rfl rfl) ?_
  refine aSims_c (i := 25) (s_icmp_le hC dX6_sheet_42 rfl rfl rfl) ?_
  refine aSims_c (i := 26) (s_bipush hC dX6_sheet_45 rfl rfl rfl) ?_
  refine aSims_c (i := 27) (s_iret hC dX6_sheet_47 rfl hr hlk nar_qI) ?_
  refine aSims_c (i := 28) (s_iload_n hC dX6_sheet_48 rfl rfl) ?_
  refine aSims_c (i := 29) (s_if_ge hC dX6_sheet_49 rfl rfl rfl) ?_
  refine aSims_c (i := 30) (s_bipush hC dX6_sheet_52 rfl rfl rfl) ?_
  refine aSims_c (i := 31) (s_iret hC dX6_sheet_54 rfl hr hlk nar_qI) ?_
  refine aSims_c (i := 32) (s_aload hC dX6_sheet_55 rfl rfl) ?_
  refine aSims_c (i := 33) (s_iload_n hC dX6_sheet_57 rfl rfl) ?_
  refine aSims_c (i := 34) (s_iload_n hC dX6_sheet_58 rfl rfl) ?_
  refine aSims_c (i := 35) (s_callV (n := 2) hC dX6_sheet_59 rfl rfl (hE 31 _ _ _ _ rfl) (hF _ (by decide)) w_757 w_754 w_755 w_756 w_100 rfl (by decide +kernel)) ?_
  refine aSims_c (i := 36) (s_iconst hC dX6_sheet_62 rfl rfl rfl) ?_
  refine aSims_c (i := 37) (s_iret hC dX6_sheet_63 rfl hr hlk nar_qI) ?_
  exact aSims_n
set_option maxHeartbeats 4000000 in
set_option maxRecDepth 20000 in
theorem sm_X6_cell (hC : aC p s m args c cX6_cell 5 RX6 D cA ad bs n0 H0 X) (hF : ∀ ml, ml ≤ 41 → aFit R d ml) (hRm : 16 ≤ R.frames ∧ 1000 ≤ R.locals) (hE : aCalls l D cA ad bs X d E) (hr : meth.sig.returnType = (some .int)) (hlk : meth.locks = false) : aSims (fun f i => aSim p l e R s m args below meth c (aEnd below s args D cA ad bs n0 z0 rv hf) 5 D cA ad bs n0 z0 H0 (apc pc_X6_cell) rv hf E f i) (cd_X6_cell) 0 := by
  unfold cd_X6_cell
  refine aSims_c (i := 0) (s_aload_n hC dX6_cell_0 rfl rfl) ?_
  refine aSims_c (i := 1) (s_iload_n hC dX6_cell_1 rfl rfl) ?_
  refine aSims_c (i := 2) (s_callV (n := 1) hC dX6_cell_2 rfl rfl (hE 105 _ _ _ _ rfl) (hF _ (by decide)) w_733 w_730 w_732 w_24 w_96 rfl (by decide +kernel)) ?_
  refine aSims_c (i := 3) (s_astore hC dX6_cell_5 rfl rfl) ?_
  refine aSims_c (i := 4) (s_aload hC dX6_cell_7 rfl rfl) ?_
  refine aSims_c (i := 5) (s_ifnonnull hC dX6_cell_9 rfl rfl rfl) ?_
  refine aSims_c (i := 6) (s_bipush hC dX6_cell_12 rfl rfl rfl) ?_
  refine aSims_c (i := 7) (s_iret hC dX6_cell_14 rfl hr hlk nar_qI) ?_
  refine aSims_c (i := 8) (s_aload hC dX6_cell_15 rfl rfl) ?_
  refine aSims_c (i := 9) (s_get hC dX6_cell_17 rfl rfl w_216 rfl rfl inB2 (by decide)) ?_
  refine aSims_c (i := 10) (s_iconst hC dX6_cell_20 rfl rfl rfl) ?_
  refine aSims_c (i := 11) (s_icmp_ne hC dX6_cell_21 rfl rfl rfl) ?_
  refine aSims_c (i := 12) (s_bipush hC dX6_cell_24 rfl rfl rfl) ?_
  refine aSims_c (i := 13) (s_iret hC dX6_cell_26 rfl hr hlk nar_qI) ?_
  refine aSims_c (i := 14) (s_aload hC dX6_cell_27 rfl rfl) ?_
  refine aSims_c (i := 15) (s_iload_n hC dX6_cell_29 rfl rfl) ?_
  refine aSims_c (i := 16) (s_callV (n := 1) hC dX6_cell_30 rfl rfl (hE 32 _ _ _ _ rfl) (hF _ (by decide)) w_767 w_809 w_765 w_766 w_100 rfl (by decide +kernel)) ?_
  refine aSims_c (i := 17) (s_if_ne hC dX6_cell_33 rfl rfl rfl) ?_
  refine aSims_c (i := 18) (s_bipush hC dX6_cell_36 rfl rfl rfl) ?_
  refine aSims_c (i := 19) (s_iret hC dX6_cell_38 rfl hr hlk nar_qI) ?_
  refine aSims_c (i := 20) (s_aload hC dX6_cell_39 rfl rfl) ?_
  refine aSims_c (i := 21) (s_iload_n hC dX6_cell_41 rfl rfl) ?_
  refine aSims_c (i := 22) (s_iload_n hC dX6_cell_42 rfl rfl) ?_
  refine aSims_c (i := 23) (s_callV (n := 2) hC dX6_cell_43 rfl rfl (hE 34 _ _ _ _ rfl) (hF _ (by decide)) w_763 w_760 w_761 w_762 w_100 rfl (by decide +kernel)) ?_
  refine aSims_c (i := 24) (s_iconst hC dX6_cell_46 rfl rfl rfl) ?_
  refine aSims_c (i := 25) (s_iret hC dX6_cell_47 rfl hr hlk nar_qI) ?_
  exact aSims_n
set_option maxHeartbeats 4000000 in
set_option maxRecDepth 20000 in
theorem sm_X6_copy (hC : aC p s m args c cX6_copy 8 RX6 D cA ad bs n0 H0 X) (hF : ∀ ml, ml ≤ 41 → aFit R d ml) (hRm : 16 ≤ R.frames ∧ 1000 ≤ R.locals) (hE : aCalls l D cA ad bs X d E) (hr : meth.sig.returnType = (some .int)) (hlk : meth.locks = false) : aSims (fun f i => aSim p l e R s m args below meth c (aEnd below s args D cA ad bs n0 z0 rv hf) 8 D cA ad bs n0 z0 H0 (apc pc_X6_copy) rv hf E f i) (cd_X6_copy) 0 := by
  unfold cd_X6_copy
  refine aSims_c (i := 0) (s_aload_n hC dX6_copy_0 rfl rfl) ?_
  refine aSims_c (i := 1) (s_iload_n hC dX6_copy_1 rfl rfl) ?_
  refine aSims_c (i := 2) (s_callV (n := 1) hC dX6_copy_2 rfl rfl (hE 105 _ _ _ _ rfl) (hF _ (by decide)) w_733 w_730 w_732 w_24 w_96 rfl (by decide +kernel)) ?_
  refine aSims_c (i := 3) (s_astore hC dX6_copy_5 rfl rfl) ?_
  refine aSims_c (i := 4) (s_aload_n hC dX6_copy_7 rfl rfl) ?_
  refine aSims_c (i := 5) (s_iload_n hC dX6_copy_8 rfl rfl) ?_
  refine aSims_c (i := 6) (s_callV (n := 1) hC dX6_copy_9 rfl rfl (hE 105 _ _ _ _ rfl) (hF _ (by decide)) w_733 w_730 w_732 w_24 w_96 rfl (by decide +kernel)) ?_
  refine aSims_c (i := 7) (s_astore hC dX6_copy_12 rfl rfl) ?_
  refine aSims_c (i := 8) (s_aload hC dX6_copy_14 rfl rfl) ?_
  refine aSims_c (i := 9) (s_ifnull hC dX6_copy_16 rfl rfl rfl) ?_
  refine aSims_c (i := 10) (s_aload hC dX6_copy_19 rfl rfl) ?_
  refine aSims_c (i := 11) (s_ifnonnull hC dX6_copy_21 rfl rfl rfl) ?_
  refine aSims_c (i := 12) (s_bipush hC dX6_copy_24 rfl rfl rfl) ?_
  refine aSims_c (i := 13) (s_iret hC dX6_copy_26 rfl hr hlk nar_qI) ?_
  refine aSims_c (i := 14) (s_aload hC dX6_copy_27 rfl rfl) ?_
  refine aSims_c (i := 15) (s_get hC dX6_copy_29 rfl rfl w_216 rfl rfl inB2 (by decide)) ?_
  refine aSims_c (i := 16) (s_iconst hC dX6_copy_32 rfl rfl rfl) ?_
  refine aSims_c (i := 17) (s_icmp_eq hC dX6_copy_33 rfl rfl rfl) ?_
  refine aSims_c (i := 18) (s_aload hC dX6_copy_36 rfl rfl) ?_
  refine aSims_c (i := 19) (s_get hC dX6_copy_38 rfl rfl w_216 rfl rfl inB2 (by decide)) ?_
  refine aSims_c (i := 20) (s_iconst hC dX6_copy_41 rfl rfl rfl) ?_
  refine aSims_c (i := 21) (s_icmp_ne hC dX6_copy_42 rfl rfl rfl) ?_
  refine aSims_c (i := 22) (s_bipush hC dX6_copy_45 rfl rfl rfl) ?_
  refine aSims_c (i := 23) (s_iret hC dX6_copy_47 rfl hr hlk nar_qI) ?_
  refine aSims_c (i := 24) (s_aload hC dX6_copy_48 rfl rfl) ?_
  refine aSims_c (i := 25) (s_get hC dX6_copy_50 rfl rfl w_216 rfl rfl inB2 (by decide)) ?_
  refine aSims_c (i := 26) (s_aload hC dX6_copy_53 rfl rfl) ?_
  refine aSims_c (i := 27) (s_get hC dX6_copy_55 rfl rfl w_216 rfl rfl inB2 (by decide)) ?_
  refine aSims_c (i := 28) (s_icmp_eq hC dX6_copy_58 rfl rfl rfl) ?_
  refine aSims_c (i := 29) (s_bipush hC dX6_copy_61 rfl rfl rfl) ?_
  refine aSims_c (i := 30) (s_iret hC dX6_copy_63 rfl hr hlk nar_qI) ?_
  refine aSims_c (i := 31) (s_aload hC dX6_copy_64 rfl rfl) ?_
  refine aSims_c (i := 32) (s_iload_n hC dX6_copy_66 rfl rfl) ?_
  refine aSims_c (i := 33) (s_iload hC dX6_copy_67 rfl rfl) ?_
  refine aSims_c (i := 34) (s_callV (n := 2) hC dX6_copy_69 rfl rfl (hE 33 _ _ _ _ rfl) (hF _ (by decide)) w_817 w_814 w_815 w_816 w_100 rfl (by decide +kernel)) ?_
  refine aSims_c (i := 35) (s_if_eq hC dX6_copy_72 rfl rfl rfl) ?_
  refine aSims_c (i := 36) (s_aload hC dX6_copy_75 rfl rfl) ?_
  refine aSims_c (i := 37) (s_iload hC dX6_copy_77 rfl rfl) ?_
  refine aSims_c (i := 38) (s_iload hC dX6_copy_79 rfl rfl) ?_
  refine aSims_c (i := 39) (s_callV (n := 2) hC dX6_copy_81 rfl rfl (hE 33 _ _ _ _ rfl) (hF _ (by decide)) w_817 w_814 w_815 w_816 w_100 rfl (by decide +kernel)) ?_
  refine aSims_c (i := 40) (s_if_ne hC dX6_copy_84 rfl rfl rfl) ?_
  refine aSims_c (i := 41) (s_bipush hC dX6_copy_87 rfl rfl rfl) ?_
  refine aSims_c (i := 42) (s_iret hC dX6_copy_89 rfl hr hlk nar_qI) ?_
  refine aSims_c (i := 43) (s_aload hC dX6_copy_90 rfl rfl) ?_
  refine aSims_c (i := 44) (s_get hC dX6_copy_92 rfl rfl w_221 rfl rfl inB2 (by decide)) ?_
  refine aSims_c (i := 45) (s_iload_n hC dX6_copy_95 rfl rfl) ?_
  refine aSims_c (i := 46) (s_aload hC dX6_copy_96 rfl rfl) ?_
  refine aSims_c (i := 47) (s_get hC dX6_copy_98 rfl rfl w_221 rfl rfl inB2 (by decide)) ?_
  refine aSims_c (i := 48) (s_iload hC dX6_copy_101 rfl rfl) ?_
  refine aSims_c (i := 49) (s_iload hC dX6_copy_103 rfl rfl) ?_
  refine aSims_c (i := 50) (s_arraycopy hC hRm dX6_copy_105 rfl rfl w_818 ⟨w_381, w_380, w_106⟩) ?_
  refine aSims_c (i := 51) (s_iload hC dX6_copy_108 rfl rfl) ?_
  refine aSims_c (i := 52) (s_iret hC dX6_copy_110 rfl hr hlk nar_qI) ?_
  exact aSims_n
set_option maxHeartbeats 4000000 in
set_option maxRecDepth 20000 in
theorem sm_X6_learners (hC : aC p s m args c cX6_learners 9 RX6 D cA ad bs n0 H0 X) (hF : ∀ ml, ml ≤ 41 → aFit R d ml) (hRm : 16 ≤ R.frames ∧ 1000 ≤ R.locals) (hE : aCalls l D cA ad bs X d E) (hr : meth.sig.returnType = (some .int)) (hlk : meth.locks = false) : aSims (fun f i => aSim p l e R s m args below meth c (aEnd below s args D cA ad bs n0 z0 rv hf) 9 D cA ad bs n0 z0 H0 (apc pc_X6_learners) rv hf E f i) (cd_X6_learners) 0 := by
  unfold cd_X6_learners
  refine aSims_c (i := 0) (s_aload_n hC dX6_learners_0 rfl rfl) ?_
  refine aSims_c (i := 1) (s_iload_n hC dX6_learners_1 rfl rfl) ?_
  refine aSims_c (i := 2) (s_callV (n := 1) hC dX6_learners_2 rfl rfl (hE 105 _ _ _ _ rfl) (hF _ (by decide)) w_733 w_730 w_732 w_24 w_96 rfl (by decide +kernel)) ?_
  refine aSims_c (i := 3) (s_astore hC dX6_learners_5 rfl rfl) ?_
  refine aSims_c (i := 4) (s_aload hC dX6_learners_7 rfl rfl) ?_
  refine aSims_c (i := 5) (s_ifnull hC dX6_learners_9 rfl rfl rfl) ?_
  refine aSims_c (i := 6) (s_iload_n hC dX6_learners_12 rfl rfl) ?_
  refine aSims_c (i := 7) (s_if_lt hC dX6_learners_13 rfl rfl rfl) ?_
  refine aSims_c (i := 8) (s_iload_n hC dX6_learners_16 rfl rfl) ?_
  refine aSims_c (i := 9) (s_iconst hC dX6_learners_17 rfl rfl rfl) ?_
  refine aSims_c (i := 10) (s_icmp_gt hC dX6_learners_18 rfl rfl rfl) ?_
  refine aSims_c (i := 11) (s_iload hC dX6_learners_21 rfl rfl) ?_
  refine aSims_c (i := 12) (s_if_lt hC dX6_learners_23 rfl rfl rfl) ?_
  refine aSims_c (i := 13) (s_iload hC dX6_learners_26 rfl rfl) ?_
  refine aSims_c (i := 14) (s_iconst hC dX6_learners_28 rfl rfl rfl) ?_
  refine aSims_c (i := 15) (s_icmp_le hC dX6_learners_29 rfl rfl rfl) ?_
  refine aSims_c (i := 16) (s_bipush hC dX6_learners_32 rfl rfl rfl) ?_
  refine aSims_c (i := 17) (s_iret hC dX6_learners_34 rfl hr hlk nar_qI) ?_
  refine aSims_c (i := 18) (s_aload hC dX6_learners_35 rfl rfl) ?_
  refine aSims_c (i := 19) (s_get hC dX6_learners_37 rfl rfl w_216 rfl rfl inB2 (by decide)) ?_
  refine aSims_c (i := 20) (s_iconst hC dX6_learners_40 rfl rfl rfl) ?_
  refine aSims_c (i := 21) (s_icmp_ne hC dX6_learners_41 rfl rfl rfl) ?_
  refine aSims_c (i := 22) (s_bipush hC dX6_learners_44 rfl rfl rfl) ?_
  refine aSims_c (i := 23) (s_iret hC dX6_learners_46 rfl hr hlk nar_qI) ?_
  refine aSims_c (i := 24) (s_aload hC dX6_learners_47 rfl rfl) ?_
  refine aSims_c (i := 25) (s_get hC dX6_learners_49 rfl rfl w_216 rfl rfl inB2 (by decide)) ?_
  refine aSims_c (i := 26) (s_iload_n hC dX6_learners_52 rfl rfl) ?_
  refine aSims_c (i := 27) (s_icmp_eq hC dX6_learners_53 rfl rfl rfl) ?_
  refine aSims_c (i := 28) (s_bipush hC dX6_learners_56 rfl rfl rfl) ?_
  refine aSims_c (i := 29) (s_iret hC dX6_learners_58 rfl hr hlk nar_qI) ?_
  refine aSims_c (i := 30) (s_iconst hC dX6_learners_59 rfl rfl rfl) ?_
  refine aSims_c (i := 31) (s_istore hC dX6_learners_60 rfl rfl) ?_
  refine aSims_c (i := 32) (s_iload_n hC dX6_learners_62 rfl rfl) ?_
  refine aSims_c (i := 33) (s_istore hC dX6_learners_63 rfl rfl) ?_
  refine aSims_c (i := 34) (s_iconst hC dX6_learners_65 rfl rfl rfl) ?_
  refine aSims_c (i := 35) (s_istore hC dX6_learners_66 rfl rfl) ?_
  refine aSims_c (i := 36) (s_iload hC dX6_learners_68 rfl rfl) ?_
  refine aSims_c (i := 37) (s_iload hC dX6_learners_70 rfl rfl) ?_
  refine aSims_c (i := 38) (s_icmp_ge hC dX6_learners_72 rfl rfl rfl) ?_
  refine aSims_c (i := 39) (s_aload hC dX6_learners_75 rfl rfl) ?_
  refine aSims_c (i := 40) (s_iload hC dX6_learners_77 rfl rfl) ?_
  refine aSims_c (i := 41) (s_callV (n := 1) hC dX6_learners_79 rfl rfl (hE 32 _ _ _ _ rfl) (hF _ (by decide)) w_767 w_809 w_765 w_766 w_100 rfl (by decide +kernel)) ?_
  refine aSims_c (i := 42) (s_if_eq hC dX6_learners_82 rfl rfl rfl) ?_
  refine aSims_c (i := 43) (s_aload hC dX6_learners_85 rfl rfl) ?_
  refine aSims_c (i := 44) (s_iload hC dX6_learners_87 rfl rfl) ?_
  refine aSims_c (i := 45) (s_iconst hC dX6_learners_89 rfl rfl rfl) ?_
  refine aSims_c (i := 46) (s_iadd hC dX6_learners_90 rfl rfl) ?_
  refine aSims_c (i := 47) (s_callV (n := 1) hC dX6_learners_91 rfl rfl (hE 32 _ _ _ _ rfl) (hF _ (by decide)) w_767 w_809 w_765 w_766 w_100 rfl (by decide +kernel)) ?_
  refine aSims_c (i := 48) (s_if_ne hC dX6_learners_94 rfl rfl rfl) ?_
  refine aSims_c (i := 49) (s_bipush hC dX6_learners_97 rfl rfl rfl) ?_
  refine aSims_c (i := 50) (s_iret hC dX6_learners_99 rfl hr hlk nar_qI) ?_
  refine aSims_c (i := 51) (s_aload_n hC dX6_learners_100 rfl rfl) ?_
  refine aSims_c (i := 52) (s_aload hC dX6_learners_101 rfl rfl) ?_
  refine aSims_c (i := 53) (s_get hC dX6_learners_103 rfl rfl w_221 rfl rfl inB2 (by decide)) ?_
  refine aSims_c (i := 54) (s_iload hC dX6_learners_106 rfl rfl) ?_
  refine aSims_c (i := 55) (s_iaload hC hX0 dX6_learners_108 rfl rfl) ?_
  refine aSims_c (i := 56) (s_aload hC dX6_learners_109 rfl rfl) ?_
  refine aSims_c (i := 57) (s_get hC dX6_learners_111 rfl rfl w_221 rfl rfl inB2 (by decide)) ?_
  refine aSims_c (i := 58) (s_iload hC dX6_learners_114 rfl rfl) ?_
  refine aSims_c (i := 59) (s_iconst hC dX6_learners_116 rfl rfl rfl) ?_
  refine aSims_c (i := 60) (s_iadd hC dX6_learners_117 rfl rfl) ?_
  refine aSims_c (i := 61) (s_iaload hC hX0 dX6_learners_118 rfl rfl) ?_
  refine aSims_c (i := 62) (s_callV (n := 2) hC dX6_learners_119 rfl rfl (hE 70 _ _ _ _ rfl) (hF _ (by decide)) w_513 w_510 w_512 w_18 w_96 rfl (by decide +kernel)) ?_
  refine aSims_c (i := 63) (s_if_lt hC dX6_learners_122 rfl rfl rfl) ?_
  refine aSims_c (i := 64) (s_iinc hC dX6_learners_125 rfl rfl) ?_
  refine aSims_c (i := 65) (s_iinc hC dX6_learners_128 rfl rfl) ?_
  refine aSims_c (i := 66) (s_iinc hC dX6_learners_131 rfl rfl) ?_
  refine aSims_c (i := 67) (s_goto hC dX6_learners_134 rfl rfl) ?_
  refine aSims_c (i := 68) (s_iload hC dX6_learners_137 rfl rfl) ?_
  refine aSims_c (i := 69) (s_iret hC dX6_learners_139 rfl hr hlk nar_qI) ?_
  exact aSims_n
set_option maxHeartbeats 4000000 in
set_option maxRecDepth 20000 in
theorem sm_X6_taken (hC : aC p s m args c cX6_taken 4 RX6 D cA ad bs n0 H0 X) (hF : ∀ ml, ml ≤ 41 → aFit R d ml) (hRm : 16 ≤ R.frames ∧ 1000 ≤ R.locals) (hE : aCalls l D cA ad bs X d E) (hr : meth.sig.returnType = (some .int)) (hlk : meth.locks = false) : aSims (fun f i => aSim p l e R s m args below meth c (aEnd below s args D cA ad bs n0 z0 rv hf) 4 D cA ad bs n0 z0 H0 (apc pc_X6_taken) rv hf E f i) (cd_X6_taken) 0 := by
  unfold cd_X6_taken
  refine aSims_c (i := 0) (s_iload_n hC dX6_taken_0 rfl rfl) ?_
  refine aSims_c (i := 1) (s_if_lt hC dX6_taken_1 rfl rfl rfl) ?_
  refine aSims_c (i := 2) (s_iload_n hC dX6_taken_4 rfl rfl) ?_
  refine aSims_c (i := 3) (s_bipush hC dX6_taken_5 rfl rfl rfl) ?_
  refine aSims_c (i := 4) (s_icmp_lt hC dX6_taken_7 rfl rfl rfl) ?_
  refine aSims_c (i := 5) (s_bipush hC dX6_taken_10 rfl rfl rfl) ?_
  refine aSims_c (i := 6) (s_iret hC dX6_taken_12 rfl hr hlk nar_qI) ?_
  refine aSims_c (i := 7) (s_aload_n hC dX6_taken_13 rfl rfl) ?_
  refine aSims_c (i := 8) (s_iload_n hC dX6_taken_14 rfl rfl) ?_
  refine aSims_c (i := 9) (s_callV (n := 1) hC dX6_taken_15 rfl rfl (hE 103 _ _ _ _ rfl) (hF _ (by decide)) w_493 w_490 w_492 w_17 w_96 rfl (by decide +kernel)) ?_
  refine aSims_c (i := 10) (s_astore_n hC dX6_taken_18 rfl rfl) ?_
  refine aSims_c (i := 11) (s_aload_n hC dX6_taken_19 rfl rfl) ?_
  refine aSims_c (i := 12) (s_ifnonnull hC dX6_taken_20 rfl rfl rfl) ?_
  refine aSims_c (i := 13) (s_bipush hC dX6_taken_23 rfl rfl rfl) ?_
  refine aSims_c (i := 14) (s_iret hC dX6_taken_25 rfl hr hlk nar_qI) ?_
  refine aSims_c (i := 15) (s_aload_n hC dX6_taken_26 rfl rfl) ?_
  refine aSims_c (i := 16) (s_iload_n hC dX6_taken_27 rfl rfl) ?_
  refine aSims_c (i := 17) (s_callV (n := 1) hC dX6_taken_28 rfl rfl (hE 9 _ _ _ _ rfl) (hF _ (by decide)) w_830 w_827 w_828 w_829 w_99 rfl (by decide +kernel)) ?_
  refine aSims_c (i := 18) (s_if_eq hC dX6_taken_31 rfl rfl rfl) ?_
  refine aSims_c (i := 19) (s_aload_n hC dX6_taken_34 rfl rfl) ?_
  refine aSims_c (i := 20) (s_get hC dX6_taken_35 rfl rfl w_188 rfl rfl inB0 (by decide)) ?_
  refine aSims_c (i := 21) (s_goto hC dX6_taken_38 rfl rfl) ?_
  refine aSims_c (i := 22) (s_bipush hC dX6_taken_41 rfl rfl rfl) ?_
  refine aSims_c (i := 23) (s_iret hC dX6_taken_43 rfl hr hlk nar_qI) ?_
  exact aSims_n
set_option maxHeartbeats 4000000 in
set_option maxRecDepth 20000 in
theorem sm_X6_pupilAt (hC : aC p s m args c cX6_pupilAt 2 RX6 D cA ad bs n0 H0 X) (hF : ∀ ml, ml ≤ 41 → aFit R d ml) (hRm : 16 ≤ R.frames ∧ 1000 ≤ R.locals) (hE : aCalls l D cA ad bs X d E) (hr : meth.sig.returnType = (some (.object "FootOnTheOtherPedal$Pupil"))) (hlk : meth.locks = false) : aSims (fun f i => aSim p l e R s m args below meth c (aEnd below s args D cA ad bs n0 z0 rv hf) 2 D cA ad bs n0 z0 H0 (apc pc_X6_pupilAt) rv hf E f i) (cd_X6_pupilAt) 0 := by
  unfold cd_X6_pupilAt
  refine aSims_c (i := 0) (s_iload_n hC dX6_pupilAt_0 rfl rfl) ?_
  refine aSims_c (i := 1) (s_if_lt hC dX6_pupilAt_1 rfl rfl rfl) ?_
  refine aSims_c (i := 2) (s_iload_n hC dX6_pupilAt_4 rfl rfl) ?_
  refine aSims_c (i := 3) (s_aload_n hC dX6_pupilAt_5 rfl rfl) ?_
  refine aSims_c (i := 4) (s_get hC dX6_pupilAt_6 rfl rfl w_446 rfl rfl inB6 (by decide)) ?_
  refine aSims_c (i := 5) (s_icmp_ge hC dX6_pupilAt_9 rfl rfl rfl) ?_
  refine aSims_c (i := 6) (s_iload_n hC dX6_pupilAt_12 rfl rfl) ?_
  refine aSims_c (i := 7) (s_iconst hC dX6_pupilAt_13 rfl rfl rfl) ?_
  refine aSims_c (i := 8) (s_icmp_ge hC dX6_pupilAt_14 rfl rfl rfl) ?_
  refine aSims_c (i := 9) (s_aload_n hC dX6_pupilAt_17 rfl rfl) ?_
  refine aSims_c (i := 10) (s_get hC dX6_pupilAt_18 rfl rfl w_445 rfl rfl inB6 (by decide)) ?_
  refine aSims_c (i := 11) (s_iload_n hC dX6_pupilAt_21 rfl rfl) ?_
  refine aSims_c (i := 12) (s_aaload hC dX6_pupilAt_22 rfl rfl) ?_
  refine aSims_c (i := 13) (s_goto hC dX6_pupilAt_23 rfl rfl) ?_
  refine aSims_c (i := 14) (s_null hC dX6_pupilAt_26 rfl rfl) ?_
  refine aSims_c (i := 15) (s_aret hC dX6_pupilAt_27 rfl hr (Or.inl ⟨_, rfl⟩) hlk) ?_
  exact aSims_n
set_option maxHeartbeats 4000000 in
set_option maxRecDepth 20000 in
theorem sm_X6_textAt (hC : aC p s m args c cX6_textAt 2 RX6 D cA ad bs n0 H0 X) (hF : ∀ ml, ml ≤ 41 → aFit R d ml) (hRm : 16 ≤ R.frames ∧ 1000 ≤ R.locals) (hE : aCalls l D cA ad bs X d E) (hr : meth.sig.returnType = (some (.object "FootOnTheOtherPedal$Text"))) (hlk : meth.locks = false) : aSims (fun f i => aSim p l e R s m args below meth c (aEnd below s args D cA ad bs n0 z0 rv hf) 2 D cA ad bs n0 z0 H0 (apc pc_X6_textAt) rv hf E f i) (cd_X6_textAt) 0 := by
  unfold cd_X6_textAt
  refine aSims_c (i := 0) (s_iload_n hC dX6_textAt_0 rfl rfl) ?_
  refine aSims_c (i := 1) (s_if_lt hC dX6_textAt_1 rfl rfl rfl) ?_
  refine aSims_c (i := 2) (s_iload_n hC dX6_textAt_4 rfl rfl) ?_
  refine aSims_c (i := 3) (s_aload_n hC dX6_textAt_5 rfl rfl) ?_
  refine aSims_c (i := 4) (s_get hC dX6_textAt_6 rfl rfl w_442 rfl rfl inB6 (by decide)) ?_
  refine aSims_c (i := 5) (s_icmp_ge hC dX6_textAt_9 rfl rfl rfl) ?_
  refine aSims_c (i := 6) (s_iload_n hC dX6_textAt_12 rfl rfl) ?_
  refine aSims_c (i := 7) (s_bipush hC dX6_textAt_13 rfl rfl rfl) ?_
  refine aSims_c (i := 8) (s_icmp_ge hC dX6_textAt_15 rfl rfl rfl) ?_
  refine aSims_c (i := 9) (s_aload_n hC dX6_textAt_18 rfl rfl) ?_
  refine aSims_c (i := 10) (s_get hC dX6_textAt_19 rfl rfl w_441 rfl rfl inB6 (by decide)) ?_
  refine aSims_c (i := 11) (s_iload_n hC dX6_textAt_22 rfl rfl) ?_
  refine aSims_c (i := 12) (s_aaload hC dX6_textAt_23 rfl rfl) ?_
  refine aSims_c (i := 13) (s_goto hC dX6_textAt_24 rfl rfl) ?_
  refine aSims_c (i := 14) (s_null hC dX6_textAt_27 rfl rfl) ?_
  refine aSims_c (i := 15) (s_aret hC dX6_textAt_28 rfl hr (Or.inl ⟨_, rfl⟩) hlk) ?_
  exact aSims_n
set_option maxHeartbeats 4000000 in
set_option maxRecDepth 20000 in
theorem sm_X6_sheetAt (hC : aC p s m args c cX6_sheetAt 2 RX6 D cA ad bs n0 H0 X) (hF : ∀ ml, ml ≤ 41 → aFit R d ml) (hRm : 16 ≤ R.frames ∧ 1000 ≤ R.locals) (hE : aCalls l D cA ad bs X d E) (hr : meth.sig.returnType = (some (.object "FootOnTheOtherPedal$Sheet"))) (hlk : meth.locks = false) : aSims (fun f i => aSim p l e R s m args below meth c (aEnd below s args D cA ad bs n0 z0 rv hf) 2 D cA ad bs n0 z0 H0 (apc pc_X6_sheetAt) rv hf E f i) (cd_X6_sheetAt) 0 := by
  unfold cd_X6_sheetAt
  refine aSims_c (i := 0) (s_iload_n hC dX6_sheetAt_0 rfl rfl) ?_
  refine aSims_c (i := 1) (s_if_lt hC dX6_sheetAt_1 rfl rfl rfl) ?_
  refine aSims_c (i := 2) (s_iload_n hC dX6_sheetAt_4 rfl rfl) ?_
  refine aSims_c (i := 3) (s_iconst hC dX6_sheetAt_5 rfl rfl rfl) ?_
  refine aSims_c (i := 4) (s_icmp_ge hC dX6_sheetAt_6 rfl rfl rfl) ?_
  refine aSims_c (i := 5) (s_aload_n hC dX6_sheetAt_9 rfl rfl) ?_
  refine aSims_c (i := 6) (s_get hC dX6_sheetAt_10 rfl rfl w_451 rfl rfl inB6 (by decide)) ?_
  refine aSims_c (i := 7) (s_iload_n hC dX6_sheetAt_13 rfl rfl) ?_
  refine aSims_c (i := 8) (s_aaload hC dX6_sheetAt_14 rfl rfl) ?_
  refine aSims_c (i := 9) (s_goto hC dX6_sheetAt_15 rfl rfl) ?_
  refine aSims_c (i := 10) (s_null hC dX6_sheetAt_18 rfl rfl) ?_
  refine aSims_c (i := 11) (s_aret hC dX6_sheetAt_19 rfl hr (Or.inl ⟨_, rfl⟩) hlk) ?_
  exact aSims_n
set_option maxHeartbeats 4000000 in
set_option maxRecDepth 20000 in
theorem sm_X6_isStreet (hC : aC p s m args c cX6_isStreet 1 RX6 D cA ad bs n0 H0 X) (hF : ∀ ml, ml ≤ 41 → aFit R d ml) (hRm : 16 ≤ R.frames ∧ 1000 ≤ R.locals) (hE : aCalls l D cA ad bs X d E) (hr : meth.sig.returnType = (some .boolean)) (hlk : meth.locks = false) : aSims (fun f i => aSim p l e R s m args below meth c (aEnd below s args D cA ad bs n0 z0 rv hf) 1 D cA ad bs n0 z0 H0 (apc pc_X6_isStreet) rv hf E f i) (cd_X6_isStreet) 0 := by
  unfold cd_X6_isStreet
  refine aSims_c (i := 0) (s_iload_n hC dX6_isStreet_0 rfl rfl) ?_
  refine aSims_c (i := 1) (s_if_lt hC dX6_isStreet_1 rfl rfl rfl) ?_
  refine aSims_c (i := 2) (s_iload_n hC dX6_isStreet_4 rfl rfl) ?_
  refine aSims_c (i := 3) (s_bipush hC dX6_isStreet_5 rfl rfl rfl) ?_
  refine aSims_c (i := 4) (s_icmp_ge hC dX6_isStreet_7 rfl rfl rfl) ?_
  refine aSims_c (i := 5) (s_iconst hC dX6_isStreet_10 rfl rfl rfl) ?_
  refine aSims_c (i := 6) (s_goto hC dX6_isStreet_11 rfl rfl) ?_
  refine aSims_c (i := 7) (s_iconst hC dX6_isStreet_14 rfl rfl rfl) ?_
  refine aSims_c (i := 8) (s_iret hC dX6_isStreet_15 rfl hr hlk nar_qZ) ?_
  exact aSims_n
set_option maxHeartbeats 4000000 in
set_option maxRecDepth 20000 in
theorem sm_X6_isHelp (hC : aC p s m args c cX6_isHelp 1 RX6 D cA ad bs n0 H0 X) (hF : ∀ ml, ml ≤ 41 → aFit R d ml) (hRm : 16 ≤ R.frames ∧ 1000 ≤ R.locals) (hE : aCalls l D cA ad bs X d E) (hr : meth.sig.returnType = (some .boolean)) (hlk : meth.locks = false) : aSims (fun f i => aSim p l e R s m args below meth c (aEnd below s args D cA ad bs n0 z0 rv hf) 1 D cA ad bs n0 z0 H0 (apc pc_X6_isHelp) rv hf E f i) (cd_X6_isHelp) 0 := by
  unfold cd_X6_isHelp
  refine aSims_c (i := 0) (s_iload_n hC dX6_isHelp_0 rfl rfl) ?_
  refine aSims_c (i := 1) (s_if_lt hC dX6_isHelp_1 rfl rfl rfl) ?_
  refine aSims_c (i := 2) (s_iload_n hC dX6_isHelp_4 rfl rfl) ?_
  refine aSims_c (i := 3) (s_iconst hC dX6_isHelp_5 rfl rfl rfl) ?_
  refine aSims_c (i := 4) (s_icmp_ge hC dX6_isHelp_6 rfl rfl rfl) ?_
  refine aSims_c (i := 5) (s_iconst hC dX6_isHelp_9 rfl rfl rfl) ?_
  refine aSims_c (i := 6) (s_goto hC dX6_isHelp_10 rfl rfl) ?_
  refine aSims_c (i := 7) (s_iconst hC dX6_isHelp_13 rfl rfl rfl) ?_
  refine aSims_c (i := 8) (s_iret hC dX6_isHelp_14 rfl hr hlk nar_qZ) ?_
  exact aSims_n
set_option maxHeartbeats 4000000 in
set_option maxRecDepth 20000 in
theorem sm_X6_isStreetHelp (hC : aC p s m args c cX6_isStreetHelp 1 RX6 D cA ad bs n0 H0 X) (hF : ∀ ml, ml ≤ 41 → aFit R d ml) (hRm : 16 ≤ R.frames ∧ 1000 ≤ R.locals) (hE : aCalls l D cA ad bs X d E) (hr : meth.sig.returnType = (some .boolean)) (hlk : meth.locks = false) : aSims (fun f i => aSim p l e R s m args below meth c (aEnd below s args D cA ad bs n0 z0 rv hf) 1 D cA ad bs n0 z0 H0 (apc pc_X6_isStreetHelp) rv hf E f i) (cd_X6_isStreetHelp) 0 := by
  unfold cd_X6_isStreetHelp
  refine aSims_c (i := 0) (s_iload_n hC dX6_isStreetHelp_0 rfl rfl) ?_
  refine aSims_c (i := 1) (s_if_lt hC dX6_isStreetHelp_1 rfl rfl rfl) ?_
  refine aSims_c (i := 2) (s_iload_n hC dX6_isStreetHelp_4 rfl rfl) ?_
  refine aSims_c (i := 3) (s_bipush hC dX6_isStreetHelp_5 rfl rfl rfl) ?_
  refine aSims_c (i := 4) (s_idiv hC dX6_isStreetHelp_7 rfl rfl) ?_
  refine aSims_c (i := 5) (s_callS hC dX6_isStreetHelp_8 rfl rfl (hE 106 _ _ _ _ rfl) (hF _ (by decide)) w_489 w_487 w_488 w_96 (by decide +kernel)) ?_
  refine aSims_c (i := 6) (s_if_eq hC dX6_isStreetHelp_11 rfl rfl rfl) ?_
  refine aSims_c (i := 7) (s_iload_n hC dX6_isStreetHelp_14 rfl rfl) ?_
  refine aSims_c (i := 8) (s_bipush hC dX6_isStreetHelp_15 rfl rfl rfl) ?_
  refine aSims_c (i := 9) (s_irem hC dX6_isStreetHelp_17 rfl rfl) ?_
  refine aSims_c (i := 10) (s_callS hC dX6_isStreetHelp_18 rfl rfl (hE 107 _ _ _ _ rfl) (hF _ (by decide)) w_612 w_610 w_611 w_96 (by decide +kernel)) ?_
  refine aSims_c (i := 11) (s_if_eq hC dX6_isStreetHelp_21 rfl rfl rfl) ?_
  refine aSims_c (i := 12) (s_iconst hC dX6_isStreetHelp_24 rfl rfl rfl) ?_
  refine aSims_c (i := 13) (s_goto hC dX6_isStreetHelp_25 rfl rfl) ?_
  refine aSims_c (i := 14) (s_iconst hC dX6_isStreetHelp_28 rfl rfl rfl) ?_
  refine aSims_c (i := 15) (s_iret hC dX6_isStreetHelp_29 rfl hr hlk nar_qZ) ?_
  exact aSims_n
set_option maxHeartbeats 4000000 in
set_option maxRecDepth 20000 in
theorem sm_X6_bounded (hC : aC p s m args c cX6_bounded 3 RX6 D cA ad bs n0 H0 X) (hF : ∀ ml, ml ≤ 41 → aFit R d ml) (hRm : 16 ≤ R.frames ∧ 1000 ≤ R.locals) (hE : aCalls l D cA ad bs X d E) (hr : meth.sig.returnType = (some .int)) (hlk : meth.locks = false) : aSims (fun f i => aSim p l e R s m args below meth c (aEnd below s args D cA ad bs n0 z0 rv hf) 3 D cA ad bs n0 z0 H0 (apc pc_X6_bounded) rv hf E f i) (cd_X6_bounded) 0 := by
  unfold cd_X6_bounded
  refine aSims_c (i := 0) (s_iload_n hC dX6_bounded_0 rfl rfl) ?_
  refine aSims_c (i := 1) (s_iload_n hC dX6_bounded_1 rfl rfl) ?_
  refine aSims_c (i := 2) (s_iload_n hC dX6_bounded_2 rfl rfl) ?_
  refine aSims_c (i := 3) (s_min hC hRm dX6_bounded_3 rfl rfl w_552 ⟨w_553, w_110, w_554⟩) ?_
  refine aSims_c (i := 4) (s_max hC hRm dX6_bounded_6 rfl rfl w_555 ⟨w_556, w_110, w_557⟩) ?_
  refine aSims_c (i := 5) (s_iret hC dX6_bounded_9 rfl hr hlk nar_qI) ?_
  exact aSims_n
set_option maxHeartbeats 4000000 in
set_option maxRecDepth 20000 in
theorem sm_X6_inLowestTerms (hC : aC p s m args c cX6_inLowestTerms 12 RX6 D cA ad bs n0 H0 X) (hF : ∀ ml, ml ≤ 41 → aFit R d ml) (hRm : 16 ≤ R.frames ∧ 1000 ≤ R.locals) (hE : aCalls l D cA ad bs X d E) (hr : meth.sig.returnType = (some .long)) (hlk : meth.locks = false) : aSims (fun f i => aSim p l e R s m args below meth c (aEnd below s args D cA ad bs n0 z0 rv hf) 12 D cA ad bs n0 z0 H0 (apc pc_X6_inLowestTerms) rv hf E f i) (cd_X6_inLowestTerms) 0 := by
  unfold cd_X6_inLowestTerms
  refine aSims_c (i := 0) (s_lload_n hC dX6_inLowestTerms_0 rfl rfl) ?_
  refine aSims_c (i := 1) (s_lstore hC dX6_inLowestTerms_1 rfl rfl) ?_
  refine aSims_c (i := 2) (s_lload_n hC dX6_inLowestTerms_3 rfl rfl) ?_
  refine aSims_c (i := 3) (s_lstore hC dX6_inLowestTerms_4 rfl rfl) ?_
  refine aSims_c (i := 4) (s_iconst hC dX6_inLowestTerms_6 rfl rfl rfl) ?_
  refine aSims_c (i := 5) (s_istore hC dX6_inLowestTerms_7 rfl rfl) ?_
  refine aSims_c (i := 6) (s_iload hC dX6_inLowestTerms_9 rfl rfl) ?_
  refine aSims_c (i := 7) (s_bipush hC dX6_inLowestTerms_11 rfl rfl rfl) ?_
  refine aSims_c (i := 8) (s_icmp_ge hC dX6_inLowestTerms_13 rfl rfl rfl) ?_
  refine aSims_c (i := 9) (s_lload hC dX6_inLowestTerms_16 rfl rfl) ?_
  refine aSims_c (i := 10) (s_lconst hC dX6_inLowestTerms_18 rfl rfl rfl) ?_
  refine aSims_c (i := 11) (s_lcmp hC dX6_inLowestTerms_19 rfl rfl) ?_
  refine aSims_c (i := 12) (s_if_eq hC dX6_inLowestTerms_20 rfl rfl rfl) ?_
  refine aSims_c (i := 13) (s_lload hC dX6_inLowestTerms_23 rfl rfl) ?_
  refine aSims_c (i := 14) (s_lload hC dX6_inLowestTerms_25 rfl rfl) ?_
  refine aSims_c (i := 15) (s_lrem hC dX6_inLowestTerms_27 rfl rfl) ?_
  refine aSims_c (i := 16) (s_lstore hC dX6_inLowestTerms_28 rfl rfl) ?_
  refine aSims_c (i := 17) (s_lload hC dX6_inLowestTerms_30 rfl rfl) ?_
  refine aSims_c (i := 18) (s_lstore hC dX6_inLowestTerms_32 rfl rfl) ?_
  refine aSims_c (i := 19) (s_lload hC dX6_inLowestTerms_34 rfl rfl) ?_
  refine aSims_c (i := 20) (s_lstore hC dX6_inLowestTerms_36 rfl rfl) ?_
  refine aSims_c (i := 21) (s_iinc hC dX6_inLowestTerms_38 rfl rfl) ?_
  refine aSims_c (i := 22) (s_goto hC dX6_inLowestTerms_41 rfl rfl) ?_
  refine aSims_c (i := 23) (s_lload hC dX6_inLowestTerms_44 rfl rfl) ?_
  refine aSims_c (i := 24) (s_lconst hC dX6_inLowestTerms_46 rfl rfl rfl) ?_
  refine aSims_c (i := 25) (s_lcmp hC dX6_inLowestTerms_47 rfl rfl) ?_
  refine aSims_c (i := 26) (s_if_ne hC dX6_inLowestTerms_48 rfl rfl rfl) ?_
  refine aSims_c (i := 27) (s_ldc2 hC dX6_inLowestTerms_51 w_721 rfl rfl) ?_
  refine aSims_c (i := 28) (s_lret hC dX6_inLowestTerms_54 rfl hr hlk) ?_
  refine aSims_c (i := 29) (s_iload hC dX6_inLowestTerms_55 rfl rfl) ?_
  refine aSims_c (i := 30) (s_if_ne hC dX6_inLowestTerms_57 rfl rfl rfl) ?_
  refine aSims_c (i := 31) (s_lload_n hC dX6_inLowestTerms_60 rfl rfl) ?_
  refine aSims_c (i := 32) (s_goto hC dX6_inLowestTerms_61 rfl rfl) ?_
  refine aSims_c (i := 33) (s_lload_n hC dX6_inLowestTerms_64 rfl rfl) ?_
  refine aSims_c (i := 34) (s_lload hC dX6_inLowestTerms_65 rfl rfl) ?_
  refine aSims_c (i := 35) (s_ldiv hC dX6_inLowestTerms_67 rfl rfl) ?_
  refine aSims_c (i := 36) (s_lret hC dX6_inLowestTerms_68 rfl hr hlk) ?_
  exact aSims_n
set_option maxHeartbeats 4000000 in
set_option maxRecDepth 20000 in
theorem sm_X7_in (hC : aC p s m args c cX7_in 6 RX7 D cA ad bs n0 H0 X) (hF : ∀ ml, ml ≤ 41 → aFit R d ml) (hRm : 16 ≤ R.frames ∧ 1000 ≤ R.locals) (hE : aCalls l D cA ad bs X d E) (hr : meth.sig.returnType = (some .boolean)) (hlk : meth.locks = false) : aSims (fun f i => aSim p l e R s m args below meth c (aEnd below s args D cA ad bs n0 z0 rv hf) 6 D cA ad bs n0 z0 H0 (apc pc_X7_in) rv hf E f i) (cd_X7_in) 0 := by
  unfold cd_X7_in
  refine aSims_c (i := 0) (s_lload_n hC dX7_in_0 rfl rfl) ?_
  refine aSims_c (i := 1) (s_lload_n hC dX7_in_1 rfl rfl) ?_
  refine aSims_c (i := 2) (s_lcmp hC dX7_in_2 rfl rfl) ?_
  refine aSims_c (i := 3) (s_if_lt hC dX7_in_3 rfl rfl rfl) ?_
  refine aSims_c (i := 4) (s_lload_n hC dX7_in_6 rfl rfl) ?_
  refine aSims_c (i := 5) (s_lload hC dX7_in_7 rfl rfl) ?_
  refine aSims_c (i := 6) (s_lcmp hC dX7_in_9 rfl rfl) ?_
  refine aSims_c (i := 7) (s_if_gt hC dX7_in_10 rfl rfl rfl) ?_
  refine aSims_c (i := 8) (s_iconst hC dX7_in_13 rfl rfl rfl) ?_
  refine aSims_c (i := 9) (s_goto hC dX7_in_14 rfl rfl) ?_
  refine aSims_c (i := 10) (s_iconst hC dX7_in_17 rfl rfl rfl) ?_
  refine aSims_c (i := 11) (s_iret hC dX7_in_18 rfl hr hlk nar_qZ) ?_
  exact aSims_n
set_option maxHeartbeats 4000000 in
set_option maxRecDepth 20000 in
theorem sm_X7_within (hC : aC p s m args c cX7_within 3 RX7 D cA ad bs n0 H0 X) (hF : ∀ ml, ml ≤ 41 → aFit R d ml) (hRm : 16 ≤ R.frames ∧ 1000 ≤ R.locals) (hE : aCalls l D cA ad bs X d E) (hr : meth.sig.returnType = (some .int)) (hlk : meth.locks = false) : aSims (fun f i => aSim p l e R s m args below meth c (aEnd below s args D cA ad bs n0 z0 rv hf) 3 D cA ad bs n0 z0 H0 (apc pc_X7_within) rv hf E f i) (cd_X7_within) 0 := by
  unfold cd_X7_within
  refine aSims_c (i := 0) (s_iload_n hC dX7_within_0 rfl rfl) ?_
  refine aSims_c (i := 1) (s_iload_n hC dX7_within_1 rfl rfl) ?_
  refine aSims_c (i := 2) (s_icmp_ge hC dX7_within_2 rfl rfl rfl) ?_
  refine aSims_c (i := 3) (s_iload_n hC dX7_within_5 rfl rfl) ?_
  refine aSims_c (i := 4) (s_goto hC dX7_within_6 rfl rfl) ?_
  refine aSims_c (i := 5) (s_iload_n hC dX7_within_9 rfl rfl) ?_
  refine aSims_c (i := 6) (s_iload_n hC dX7_within_10 rfl rfl) ?_
  refine aSims_c (i := 7) (s_icmp_le hC dX7_within_11 rfl rfl rfl) ?_
  refine aSims_c (i := 8) (s_iload_n hC dX7_within_14 rfl rfl) ?_
  refine aSims_c (i := 9) (s_goto hC dX7_within_15 rfl rfl) ?_
  refine aSims_c (i := 10) (s_iload_n hC dX7_within_18 rfl rfl) ?_
  refine aSims_c (i := 11) (s_iret hC dX7_within_19 rfl hr hlk nar_qI) ?_
  exact aSims_n
end SIM
