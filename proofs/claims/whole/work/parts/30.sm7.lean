/-! each method's instructions are simulated (written by wip/whole/gen.py) -/
theorem dX7_read_0 : decode cX7_read 0 = .ok (.aload_n 0, 1) := by decide +kernel
theorem dX7_read_1 : decode cX7_read 1 = .ok (.sipush 160, 3) := by decide +kernel
theorem dX7_read_4 : decode cX7_read 4 = .ok (.iload_n 1, 1) := by decide +kernel
theorem dX7_read_5 : decode cX7_read 5 = .ok (.imul, 1) := by decide +kernel
theorem dX7_read_6 : decode cX7_read 6 = .ok (.putfield 142, 3) := by decide +kernel
theorem dX7_read_9 : decode cX7_read 9 = .ok (.aload_n 0, 1) := by decide +kernel
theorem dX7_read_10 : decode cX7_read 10 = .ok (.aload_n 0, 1) := by decide +kernel
theorem dX7_read_11 : decode cX7_read 11 = .ok (.getfield 17, 3) := by decide +kernel
theorem dX7_read_14 : decode cX7_read 14 = .ok (.iload_n 1, 1) := by decide +kernel
theorem dX7_read_15 : decode cX7_read 15 = .ok (.iaload, 1) := by decide +kernel
theorem dX7_read_16 : decode cX7_read 16 = .ok (.putfield 139, 3) := by decide +kernel
theorem dX7_read_19 : decode cX7_read 19 = .ok (.aload_n 0, 1) := by decide +kernel
theorem dX7_read_20 : decode cX7_read 20 = .ok (.iconst 0, 1) := by decide +kernel
theorem dX7_read_21 : decode cX7_read 21 = .ok (.putfield 145, 3) := by decide +kernel
theorem dX7_read_24 : decode cX7_read 24 = .ok (.aload_n 0, 1) := by decide +kernel
theorem dX7_read_25 : decode cX7_read 25 = .ok (.iconst 0, 1) := by decide +kernel
theorem dX7_read_26 : decode cX7_read 26 = .ok (.putfield 179, 3) := by decide +kernel
theorem dX7_read_29 : decode cX7_read 29 = .ok (.aload_n 0, 1) := by decide +kernel
theorem dX7_read_30 : decode cX7_read 30 = .ok (.iconst 0, 1) := by decide +kernel
theorem dX7_read_31 : decode cX7_read 31 = .ok (.putfield 169, 3) := by decide +kernel
theorem dX7_read_34 : decode cX7_read 34 = .ok (.aload_n 0, 1) := by decide +kernel
theorem dX7_read_35 : decode cX7_read 35 = .ok (.invokevirtual 185, 3) := by decide +kernel
theorem dX7_read_38 : decode cX7_read 38 = .ok (.aload_n 0, 1) := by decide +kernel
theorem dX7_read_39 : decode cX7_read 39 = .ok (.aload_n 0, 1) := by decide +kernel
theorem dX7_read_40 : decode cX7_read 40 = .ok (.bipush 116, 2) := by decide +kernel
theorem dX7_read_42 : decode cX7_read 42 = .ok (.bipush 101, 2) := by decide +kernel
theorem dX7_read_44 : decode cX7_read 44 = .ok (.bipush 97, 2) := by decide +kernel
theorem dX7_read_46 : decode cX7_read 46 = .ok (.bipush 99, 2) := by decide +kernel
theorem dX7_read_48 : decode cX7_read 48 = .ok (.bipush 104, 2) := by decide +kernel
theorem dX7_read_50 : decode cX7_read 50 = .ok (.bipush 101, 2) := by decide +kernel
theorem dX7_read_52 : decode cX7_read 52 = .ok (.bipush 115, 2) := by decide +kernel
theorem dX7_read_54 : decode cX7_read 54 = .ok (.iconst 0, 1) := by decide +kernel
theorem dX7_read_55 : decode cX7_read 55 = .ok (.invokevirtual 188, 3) := by decide +kernel
theorem dX7_read_58 : decode cX7_read 58 = .ok (.invokevirtual 333, 3) := by decide +kernel
theorem dX7_read_61 : decode cX7_read 61 = .ok (.istore_n 3, 1) := by decide +kernel
theorem dX7_read_62 : decode cX7_read 62 = .ok (.aload_n 0, 1) := by decide +kernel
theorem dX7_read_63 : decode cX7_read 63 = .ok (.getfield 169, 3) := by decide +kernel
theorem dX7_read_66 : decode cX7_read 66 = .ok (.ifCond .eq 7, 3) := by decide +kernel
theorem dX7_read_69 : decode cX7_read 69 = .ok (.iconst 0, 1) := by decide +kernel
theorem dX7_read_70 : decode cX7_read 70 = .ok (.goto 24, 3) := by decide +kernel
theorem dX7_read_73 : decode cX7_read 73 = .ok (.aload_n 0, 1) := by decide +kernel
theorem dX7_read_74 : decode cX7_read 74 = .ok (.aload_n 0, 1) := by decide +kernel
theorem dX7_read_75 : decode cX7_read 75 = .ok (.bipush 102, 2) := by decide +kernel
theorem dX7_read_77 : decode cX7_read 77 = .ok (.bipush 97, 2) := by decide +kernel
theorem dX7_read_79 : decode cX7_read 79 = .ok (.bipush 100, 2) := by decide +kernel
theorem dX7_read_81 : decode cX7_read 81 = .ok (.bipush 101, 2) := by decide +kernel
theorem dX7_read_83 : decode cX7_read 83 = .ok (.bipush 115, 2) := by decide +kernel
theorem dX7_read_85 : decode cX7_read 85 = .ok (.iconst 0, 1) := by decide +kernel
theorem dX7_read_86 : decode cX7_read 86 = .ok (.iconst 0, 1) := by decide +kernel
theorem dX7_read_87 : decode cX7_read 87 = .ok (.iconst 0, 1) := by decide +kernel
theorem dX7_read_88 : decode cX7_read 88 = .ok (.invokevirtual 188, 3) := by decide +kernel
theorem dX7_read_91 : decode cX7_read 91 = .ok (.invokevirtual 333, 3) := by decide +kernel
theorem dX7_read_94 : decode cX7_read 94 = .ok (.istore 4, 2) := by decide +kernel
theorem dX7_read_96 : decode cX7_read 96 = .ok (.aload_n 0, 1) := by decide +kernel
theorem dX7_read_97 : decode cX7_read 97 = .ok (.getfield 169, 3) := by decide +kernel
theorem dX7_read_100 : decode cX7_read 100 = .ok (.ifCond .eq 7, 3) := by decide +kernel
theorem dX7_read_103 : decode cX7_read 103 = .ok (.iconst 0, 1) := by decide +kernel
theorem dX7_read_104 : decode cX7_read 104 = .ok (.goto 25, 3) := by decide +kernel
theorem dX7_read_107 : decode cX7_read 107 = .ok (.aload_n 0, 1) := by decide +kernel
theorem dX7_read_108 : decode cX7_read 108 = .ok (.aload_n 0, 1) := by decide +kernel
theorem dX7_read_109 : decode cX7_read 109 = .ok (.bipush 110, 2) := by decide +kernel
theorem dX7_read_111 : decode cX7_read 111 = .ok (.bipush 101, 2) := by decide +kernel
theorem dX7_read_113 : decode cX7_read 113 = .ok (.bipush 114, 2) := by decide +kernel
theorem dX7_read_115 : decode cX7_read 115 = .ok (.bipush 118, 2) := by decide +kernel
theorem dX7_read_117 : decode cX7_read 117 = .ok (.bipush 101, 2) := by decide +kernel
theorem dX7_read_119 : decode cX7_read 119 = .ok (.bipush 115, 2) := by decide +kernel
theorem dX7_read_121 : decode cX7_read 121 = .ok (.iconst 0, 1) := by decide +kernel
theorem dX7_read_122 : decode cX7_read 122 = .ok (.iconst 0, 1) := by decide +kernel
theorem dX7_read_123 : decode cX7_read 123 = .ok (.invokevirtual 188, 3) := by decide +kernel
theorem dX7_read_126 : decode cX7_read 126 = .ok (.invokevirtual 333, 3) := by decide +kernel
theorem dX7_read_129 : decode cX7_read 129 = .ok (.istore 5, 2) := by decide +kernel
theorem dX7_read_131 : decode cX7_read 131 = .ok (.aload_n 0, 1) := by decide +kernel
theorem dX7_read_132 : decode cX7_read 132 = .ok (.getfield 169, 3) := by decide +kernel
theorem dX7_read_135 : decode cX7_read 135 = .ok (.ifCond .ne 14, 3) := by decide +kernel
theorem dX7_read_138 : decode cX7_read 138 = .ok (.aload_n 0, 1) := by decide +kernel
theorem dX7_read_139 : decode cX7_read 139 = .ok (.getfield 154, 3) := by decide +kernel
theorem dX7_read_142 : decode cX7_read 142 = .ok (.ifCond .eq 7, 3) := by decide +kernel
theorem dX7_read_145 : decode cX7_read 145 = .ok (.aload_n 0, 1) := by decide +kernel
theorem dX7_read_146 : decode cX7_read 146 = .ok (.invokevirtual 182, 3) := by decide +kernel
theorem dX7_read_149 : decode cX7_read 149 = .ok (.iload_n 2, 1) := by decide +kernel
theorem dX7_read_150 : decode cX7_read 150 = .ok (.ifCond .ne 7, 3) := by decide +kernel
theorem dX7_read_153 : decode cX7_read 153 = .ok (.iload_n 3, 1) := by decide +kernel
theorem dX7_read_154 : decode cX7_read 154 = .ok (.goto 15, 3) := by decide +kernel
theorem dX7_read_157 : decode cX7_read 157 = .ok (.iload_n 2, 1) := by decide +kernel
theorem dX7_read_158 : decode cX7_read 158 = .ok (.iconst 1, 1) := by decide +kernel
theorem dX7_read_159 : decode cX7_read 159 = .ok (.if_icmp .ne 8, 3) := by decide +kernel
theorem dX7_read_162 : decode cX7_read 162 = .ok (.iload 4, 2) := by decide +kernel
theorem dX7_read_164 : decode cX7_read 164 = .ok (.goto 5, 3) := by decide +kernel
theorem dX7_read_167 : decode cX7_read 167 = .ok (.iload 5, 2) := by decide +kernel
theorem dX7_read_169 : decode cX7_read 169 = .ok (.ireturn, 1) := by decide +kernel
theorem dX7_text_0 : decode cX7_text 0 = .ok (.aload_n 0, 1) := by decide +kernel
theorem dX7_text_1 : decode cX7_text 1 = .ok (.getfield 70, 3) := by decide +kernel
theorem dX7_text_4 : decode cX7_text 4 = .ok (.bipush 6, 2) := by decide +kernel
theorem dX7_text_6 : decode cX7_text 6 = .ok (.if_icmp .ne 6, 3) := by decide +kernel
theorem dX7_text_9 : decode cX7_text 9 = .ok (.bipush (-4), 2) := by decide +kernel
theorem dX7_text_11 : decode cX7_text 11 = .ok (.ireturn, 1) := by decide +kernel
theorem dX7_text_12 : decode cX7_text 12 = .ok (.iconst 0, 1) := by decide +kernel
theorem dX7_text_13 : decode cX7_text 13 = .ok (.istore_n 1, 1) := by decide +kernel
theorem dX7_text_14 : decode cX7_text 14 = .ok (.iload_n 1, 1) := by decide +kernel
theorem dX7_text_15 : decode cX7_text 15 = .ok (.aload_n 0, 1) := by decide +kernel
theorem dX7_text_16 : decode cX7_text 16 = .ok (.getfield 136, 3) := by decide +kernel
theorem dX7_text_19 : decode cX7_text 19 = .ok (.if_icmp .ge 30, 3) := by decide +kernel
theorem dX7_text_22 : decode cX7_text 22 = .ok (.aload_n 0, 1) := by decide +kernel
theorem dX7_text_23 : decode cX7_text 23 = .ok (.getfield 13, 3) := by decide +kernel
theorem dX7_text_26 : decode cX7_text 26 = .ok (.sipush 160, 3) := by decide +kernel
theorem dX7_text_29 : decode cX7_text 29 = .ok (.aload_n 0, 1) := by decide +kernel
theorem dX7_text_30 : decode cX7_text 30 = .ok (.getfield 70, 3) := by decide +kernel
theorem dX7_text_33 : decode cX7_text 33 = .ok (.imul, 1) := by decide +kernel
theorem dX7_text_34 : decode cX7_text 34 = .ok (.iload_n 1, 1) := by decide +kernel
theorem dX7_text_35 : decode cX7_text 35 = .ok (.iadd, 1) := by decide +kernel
theorem dX7_text_36 : decode cX7_text 36 = .ok (.aload_n 0, 1) := by decide +kernel
theorem dX7_text_37 : decode cX7_text 37 = .ok (.getfield 20, 3) := by decide +kernel
theorem dX7_text_40 : decode cX7_text 40 = .ok (.iload_n 1, 1) := by decide +kernel
theorem dX7_text_41 : decode cX7_text 41 = .ok (.iaload, 1) := by decide +kernel
theorem dX7_text_42 : decode cX7_text 42 = .ok (.iastore, 1) := by decide +kernel
theorem dX7_text_43 : decode cX7_text 43 = .ok (.iinc 1 1, 3) := by decide +kernel
theorem dX7_text_46 : decode cX7_text 46 = .ok (.goto (-32), 3) := by decide +kernel
theorem dX7_text_49 : decode cX7_text 49 = .ok (.aload_n 0, 1) := by decide +kernel
theorem dX7_text_50 : decode cX7_text 50 = .ok (.getfield 17, 3) := by decide +kernel
theorem dX7_text_53 : decode cX7_text 53 = .ok (.aload_n 0, 1) := by decide +kernel
theorem dX7_text_54 : decode cX7_text 54 = .ok (.getfield 70, 3) := by decide +kernel
theorem dX7_text_57 : decode cX7_text 57 = .ok (.aload_n 0, 1) := by decide +kernel
theorem dX7_text_58 : decode cX7_text 58 = .ok (.getfield 136, 3) := by decide +kernel
theorem dX7_text_61 : decode cX7_text 61 = .ok (.iastore, 1) := by decide +kernel
theorem dX7_text_62 : decode cX7_text 62 = .ok (.aload_n 0, 1) := by decide +kernel
theorem dX7_text_63 : decode cX7_text 63 = .ok (.iconst 0, 1) := by decide +kernel
theorem dX7_text_64 : decode cX7_text 64 = .ok (.putfield 136, 3) := by decide +kernel
theorem dX7_text_67 : decode cX7_text 67 = .ok (.aload_n 0, 1) := by decide +kernel
theorem dX7_text_68 : decode cX7_text 68 = .ok (.aload_n 0, 1) := by decide +kernel
theorem dX7_text_69 : decode cX7_text 69 = .ok (.getfield 70, 3) := by decide +kernel
theorem dX7_text_72 : decode cX7_text 72 = .ok (.iconst 0, 1) := by decide +kernel
theorem dX7_text_73 : decode cX7_text 73 = .ok (.invokevirtual 337, 3) := by decide +kernel
theorem dX7_text_76 : decode cX7_text 76 = .ok (.istore_n 1, 1) := by decide +kernel
theorem dX7_text_77 : decode cX7_text 77 = .ok (.aload_n 0, 1) := by decide +kernel
theorem dX7_text_78 : decode cX7_text 78 = .ok (.getfield 169, 3) := by decide +kernel
theorem dX7_text_81 : decode cX7_text 81 = .ok (.ifCond .eq 11, 3) := by decide +kernel
theorem dX7_text_84 : decode cX7_text 84 = .ok (.bipush (-100), 2) := by decide +kernel
theorem dX7_text_86 : decode cX7_text 86 = .ok (.aload_n 0, 1) := by decide +kernel
theorem dX7_text_87 : decode cX7_text 87 = .ok (.getfield 173, 3) := by decide +kernel
theorem dX7_text_90 : decode cX7_text 90 = .ok (.isub, 1) := by decide +kernel
theorem dX7_text_91 : decode cX7_text 91 = .ok (.ireturn, 1) := by decide +kernel
theorem dX7_text_92 : decode cX7_text 92 = .ok (.aload_n 0, 1) := by decide +kernel
theorem dX7_text_93 : decode cX7_text 93 = .ok (.dup, 1) := by decide +kernel
theorem dX7_text_94 : decode cX7_text 94 = .ok (.getfield 70, 3) := by decide +kernel
theorem dX7_text_97 : decode cX7_text 97 = .ok (.iconst 1, 1) := by decide +kernel
theorem dX7_text_98 : decode cX7_text 98 = .ok (.iadd, 1) := by decide +kernel
theorem dX7_text_99 : decode cX7_text 99 = .ok (.putfield 70, 3) := by decide +kernel
theorem dX7_text_102 : decode cX7_text 102 = .ok (.aload_n 0, 1) := by decide +kernel
theorem dX7_text_103 : decode cX7_text 103 = .ok (.getfield 70, 3) := by decide +kernel
theorem dX7_text_106 : decode cX7_text 106 = .ok (.iconst 1, 1) := by decide +kernel
theorem dX7_text_107 : decode cX7_text 107 = .ok (.isub, 1) := by decide +kernel
theorem dX7_text_108 : decode cX7_text 108 = .ok (.ireturn, 1) := by decide +kernel
theorem dX7_force_0 : decode cX7_force 0 = .ok (.iload_n 1, 1) := by decide +kernel
theorem dX7_force_1 : decode cX7_force 1 = .ok (.i2l, 1) := by decide +kernel
theorem dX7_force_2 : decode cX7_force 2 = .ok (.lconst 0, 1) := by decide +kernel
theorem dX7_force_3 : decode cX7_force 3 = .ok (.aload_n 0, 1) := by decide +kernel
theorem dX7_force_4 : decode cX7_force 4 = .ok (.getfield 70, 3) := by decide +kernel
theorem dX7_force_7 : decode cX7_force 7 = .ok (.iconst 1, 1) := by decide +kernel
theorem dX7_force_8 : decode cX7_force 8 = .ok (.isub, 1) := by decide +kernel
theorem dX7_force_9 : decode cX7_force 9 = .ok (.i2l, 1) := by decide +kernel
theorem dX7_force_10 : decode cX7_force 10 = .ok (.invokestatic 76, 3) := by decide +kernel
theorem dX7_force_13 : decode cX7_force 13 = .ok (.ifCond .ne 6, 3) := by decide +kernel
theorem dX7_force_16 : decode cX7_force 16 = .ok (.bipush (-2), 2) := by decide +kernel
theorem dX7_force_18 : decode cX7_force 18 = .ok (.ireturn, 1) := by decide +kernel
theorem dX7_force_19 : decode cX7_force 19 = .ok (.aload_n 0, 1) := by decide +kernel
theorem dX7_force_20 : decode cX7_force 20 = .ok (.getfield 117, 3) := by decide +kernel
theorem dX7_force_23 : decode cX7_force 23 = .ok (.istore_n 2, 1) := by decide +kernel
theorem dX7_force_24 : decode cX7_force 24 = .ok (.aload_n 0, 1) := by decide +kernel
theorem dX7_force_25 : decode cX7_force 25 = .ok (.iload_n 1, 1) := by decide +kernel
theorem dX7_force_26 : decode cX7_force 26 = .ok (.putfield 117, 3) := by decide +kernel
theorem dX7_force_29 : decode cX7_force 29 = .ok (.iload_n 2, 1) := by decide +kernel
theorem dX7_force_30 : decode cX7_force 30 = .ok (.ireturn, 1) := by decide +kernel
theorem dX7_says_0 : decode cX7_says 0 = .ok (.aload_n 0, 1) := by decide +kernel
theorem dX7_says_1 : decode cX7_says 1 = .ok (.aload_n 0, 1) := by decide +kernel
theorem dX7_says_2 : decode cX7_says 2 = .ok (.getfield 32, 3) := by decide +kernel
theorem dX7_says_5 : decode cX7_says 5 = .ok (.iload_n 2, 1) := by decide +kernel
theorem dX7_says_6 : decode cX7_says 6 = .ok (.iload_n 3, 1) := by decide +kernel
theorem dX7_says_7 : decode cX7_says 7 = .ok (.invokestatic 114, 3) := by decide +kernel
theorem dX7_says_10 : decode cX7_says 10 = .ok (.iaload, 1) := by decide +kernel
theorem dX7_says_11 : decode cX7_says 11 = .ok (.putfield 192, 3) := by decide +kernel
theorem dX7_says_14 : decode cX7_says 14 = .ok (.aload_n 0, 1) := by decide +kernel
theorem dX7_says_15 : decode cX7_says 15 = .ok (.aload_n 0, 1) := by decide +kernel
theorem dX7_says_16 : decode cX7_says 16 = .ok (.getfield 23, 3) := by decide +kernel
theorem dX7_says_19 : decode cX7_says 19 = .ok (.iload_n 3, 1) := by decide +kernel
theorem dX7_says_20 : decode cX7_says 20 = .ok (.iaload, 1) := by decide +kernel
theorem dX7_says_21 : decode cX7_says 21 = .ok (.putfield 195, 3) := by decide +kernel
theorem dX7_says_24 : decode cX7_says 24 = .ok (.aload_n 0, 1) := by decide +kernel
theorem dX7_says_25 : decode cX7_says 25 = .ok (.iload 4, 2) := by decide +kernel
theorem dX7_says_27 : decode cX7_says 27 = .ok (.putfield 198, 3) := by decide +kernel
theorem dX7_says_30 : decode cX7_says 30 = .ok (.aload_n 0, 1) := by decide +kernel
theorem dX7_says_31 : decode cX7_says 31 = .ok (.aload_n 0, 1) := by decide +kernel
theorem dX7_says_32 : decode cX7_says 32 = .ok (.getfield 29, 3) := by decide +kernel
theorem dX7_says_35 : decode cX7_says 35 = .ok (.iload_n 2, 1) := by decide +kernel
theorem dX7_says_36 : decode cX7_says 36 = .ok (.iaload, 1) := by decide +kernel
theorem dX7_says_37 : decode cX7_says 37 = .ok (.putfield 201, 3) := by decide +kernel
theorem dX7_says_40 : decode cX7_says 40 = .ok (.aload_n 0, 1) := by decide +kernel
theorem dX7_says_41 : decode cX7_says 41 = .ok (.aload_n 0, 1) := by decide +kernel
theorem dX7_says_42 : decode cX7_says 42 = .ok (.getfield 111, 3) := by decide +kernel
theorem dX7_says_45 : decode cX7_says 45 = .ok (.putfield 204, 3) := by decide +kernel
theorem dX7_says_48 : decode cX7_says 48 = .ok (.aload_n 0, 1) := by decide +kernel
theorem dX7_says_49 : decode cX7_says 49 = .ok (.aload_n 0, 1) := by decide +kernel
theorem dX7_says_50 : decode cX7_says 50 = .ok (.getfield 32, 3) := by decide +kernel
theorem dX7_says_53 : decode cX7_says 53 = .ok (.iload_n 2, 1) := by decide +kernel
theorem dX7_says_54 : decode cX7_says 54 = .ok (.bipush 8, 2) := by decide +kernel
theorem dX7_says_56 : decode cX7_says 56 = .ok (.invokestatic 114, 3) := by decide +kernel
theorem dX7_says_59 : decode cX7_says 59 = .ok (.iaload, 1) := by decide +kernel
theorem dX7_says_60 : decode cX7_says 60 = .ok (.putfield 207, 3) := by decide +kernel
theorem dX7_says_63 : decode cX7_says 63 = .ok (.aload_n 0, 1) := by decide +kernel
theorem dX7_says_64 : decode cX7_says 64 = .ok (.aload_n 0, 1) := by decide +kernel
theorem dX7_says_65 : decode cX7_says 65 = .ok (.getfield 117, 3) := by decide +kernel
theorem dX7_says_68 : decode cX7_says 68 = .ok (.iload_n 1, 1) := by decide +kernel
theorem dX7_says_69 : decode cX7_says 69 = .ok (.invokevirtual 337, 3) := by decide +kernel
theorem dX7_says_72 : decode cX7_says 72 = .ok (.istore 5, 2) := by decide +kernel
theorem dX7_says_74 : decode cX7_says 74 = .ok (.iload 5, 2) := by decide +kernel
theorem dX7_says_76 : decode cX7_says 76 = .ok (.iload_n 1, 1) := by decide +kernel
theorem dX7_says_77 : decode cX7_says 77 = .ok (.iconst 2, 1) := by decide +kernel
theorem dX7_says_78 : decode cX7_says 78 = .ok (.if_icmp .ne 8, 3) := by decide +kernel
theorem dX7_says_81 : decode cX7_says 81 = .ok (.bipush (-99), 2) := by decide +kernel
theorem dX7_says_83 : decode cX7_says 83 = .ok (.goto 4, 3) := by decide +kernel
theorem dX7_says_86 : decode cX7_says 86 = .ok (.iconst 0, 1) := by decide +kernel
theorem dX7_says_87 : decode cX7_says 87 = .ok (.bipush 99, 2) := by decide +kernel
theorem dX7_says_89 : decode cX7_says 89 = .ok (.invokestatic 340, 3) := by decide +kernel
theorem dX7_says_92 : decode cX7_says 92 = .ok (.ireturn, 1) := by decide +kernel
theorem dX7_learnsOf_0 : decode cX7_learnsOf 0 = .ok (.aload_n 0, 1) := by decide +kernel
theorem dX7_learnsOf_1 : decode cX7_learnsOf 1 = .ok (.getfield 26, 3) := by decide +kernel
theorem dX7_learnsOf_4 : decode cX7_learnsOf 4 = .ok (.iload_n 1, 1) := by decide +kernel
theorem dX7_learnsOf_5 : decode cX7_learnsOf 5 = .ok (.iaload, 1) := by decide +kernel
theorem dX7_learnsOf_6 : decode cX7_learnsOf 6 = .ok (.istore 4, 2) := by decide +kernel
theorem dX7_learnsOf_8 : decode cX7_learnsOf 8 = .ok (.aload_n 0, 1) := by decide +kernel
theorem dX7_learnsOf_9 : decode cX7_learnsOf 9 = .ok (.iconst 0, 1) := by decide +kernel
theorem dX7_learnsOf_10 : decode cX7_learnsOf 10 = .ok (.iload_n 1, 1) := by decide +kernel
theorem dX7_learnsOf_11 : decode cX7_learnsOf 11 = .ok (.iload_n 2, 1) := by decide +kernel
theorem dX7_learnsOf_12 : decode cX7_learnsOf 12 = .ok (.iload_n 3, 1) := by decide +kernel
theorem dX7_learnsOf_13 : decode cX7_learnsOf 13 = .ok (.invokevirtual 344, 3) := by decide +kernel
theorem dX7_learnsOf_16 : decode cX7_learnsOf 16 = .ok (.istore 5, 2) := by decide +kernel
theorem dX7_learnsOf_18 : decode cX7_learnsOf 18 = .ok (.iload_n 3, 1) := by decide +kernel
theorem dX7_learnsOf_19 : decode cX7_learnsOf 19 = .ok (.ifCond .ne 10, 3) := by decide +kernel
theorem dX7_learnsOf_22 : decode cX7_learnsOf 22 = .ok (.iconst 2, 1) := by decide +kernel
theorem dX7_learnsOf_23 : decode cX7_learnsOf 23 = .ok (.iload 5, 2) := by decide +kernel
theorem dX7_learnsOf_25 : decode cX7_learnsOf 25 = .ok (.imul, 1) := by decide +kernel
theorem dX7_learnsOf_26 : decode cX7_learnsOf 26 = .ok (.goto 5, 3) := by decide +kernel
theorem dX7_learnsOf_29 : decode cX7_learnsOf 29 = .ok (.iload 5, 2) := by decide +kernel
theorem dX7_learnsOf_31 : decode cX7_learnsOf 31 = .ok (.istore 6, 2) := by decide +kernel
theorem dX7_learnsOf_33 : decode cX7_learnsOf 33 = .ok (.iload_n 3, 1) := by decide +kernel
theorem dX7_learnsOf_34 : decode cX7_learnsOf 34 = .ok (.ifCond .ne 10, 3) := by decide +kernel
theorem dX7_learnsOf_37 : decode cX7_learnsOf 37 = .ok (.iload 5, 2) := by decide +kernel
theorem dX7_learnsOf_39 : decode cX7_learnsOf 39 = .ok (.iconst 2, 1) := by decide +kernel
theorem dX7_learnsOf_40 : decode cX7_learnsOf 40 = .ok (.idiv, 1) := by decide +kernel
theorem dX7_learnsOf_41 : decode cX7_learnsOf 41 = .ok (.goto 5, 3) := by decide +kernel
theorem dX7_learnsOf_44 : decode cX7_learnsOf 44 = .ok (.iload 5, 2) := by decide +kernel
theorem dX7_learnsOf_46 : decode cX7_learnsOf 46 = .ok (.istore 7, 2) := by decide +kernel
theorem dX7_learnsOf_48 : decode cX7_learnsOf 48 = .ok (.iload 4, 2) := by decide +kernel
theorem dX7_learnsOf_50 : decode cX7_learnsOf 50 = .ok (.iconst 1, 1) := by decide +kernel
theorem dX7_learnsOf_51 : decode cX7_learnsOf 51 = .ok (.if_icmp .ne 8, 3) := by decide +kernel
theorem dX7_learnsOf_54 : decode cX7_learnsOf 54 = .ok (.iload 6, 2) := by decide +kernel
theorem dX7_learnsOf_56 : decode cX7_learnsOf 56 = .ok (.goto 80, 3) := by decide +kernel
theorem dX7_learnsOf_59 : decode cX7_learnsOf 59 = .ok (.iload 4, 2) := by decide +kernel
theorem dX7_learnsOf_61 : decode cX7_learnsOf 61 = .ok (.iconst 2, 1) := by decide +kernel
theorem dX7_learnsOf_62 : decode cX7_learnsOf 62 = .ok (.if_icmp .ne 8, 3) := by decide +kernel
theorem dX7_learnsOf_65 : decode cX7_learnsOf 65 = .ok (.iload 7, 2) := by decide +kernel
theorem dX7_learnsOf_67 : decode cX7_learnsOf 67 = .ok (.goto 69, 3) := by decide +kernel
theorem dX7_learnsOf_70 : decode cX7_learnsOf 70 = .ok (.iload 4, 2) := by decide +kernel
theorem dX7_learnsOf_72 : decode cX7_learnsOf 72 = .ok (.iconst 3, 1) := by decide +kernel
theorem dX7_learnsOf_73 : decode cX7_learnsOf 73 = .ok (.if_icmp .ne 17, 3) := by decide +kernel
theorem dX7_learnsOf_76 : decode cX7_learnsOf 76 = .ok (.iload_n 3, 1) := by decide +kernel
theorem dX7_learnsOf_77 : decode cX7_learnsOf 77 = .ok (.iconst 2, 1) := by decide +kernel
theorem dX7_learnsOf_78 : decode cX7_learnsOf 78 = .ok (.if_icmp .ne 7, 3) := by decide +kernel
theorem dX7_learnsOf_81 : decode cX7_learnsOf 81 = .ok (.iconst 0, 1) := by decide +kernel
theorem dX7_learnsOf_82 : decode cX7_learnsOf 82 = .ok (.goto 54, 3) := by decide +kernel
theorem dX7_learnsOf_85 : decode cX7_learnsOf 85 = .ok (.iload 6, 2) := by decide +kernel
theorem dX7_learnsOf_87 : decode cX7_learnsOf 87 = .ok (.goto 49, 3) := by decide +kernel
theorem dX7_learnsOf_90 : decode cX7_learnsOf 90 = .ok (.iload 4, 2) := by decide +kernel
theorem dX7_learnsOf_92 : decode cX7_learnsOf 92 = .ok (.iconst 4, 1) := by decide +kernel
theorem dX7_learnsOf_93 : decode cX7_learnsOf 93 = .ok (.if_icmp .ne 25, 3) := by decide +kernel
theorem dX7_learnsOf_96 : decode cX7_learnsOf 96 = .ok (.iload_n 3, 1) := by decide +kernel
theorem dX7_learnsOf_97 : decode cX7_learnsOf 97 = .ok (.iconst 1, 1) := by decide +kernel
theorem dX7_learnsOf_98 : decode cX7_learnsOf 98 = .ok (.if_icmp .ne 15, 3) := by decide +kernel
theorem dX7_learnsOf_101 : decode cX7_learnsOf 101 = .ok (.iload 7, 2) := by decide +kernel
theorem dX7_learnsOf_103 : decode cX7_learnsOf 103 = .ok (.aload_n 0, 1) := by decide +kernel
theorem dX7_learnsOf_104 : decode cX7_learnsOf 104 = .ok (.getfield 29, 3) := by decide +kernel
theorem dX7_learnsOf_107 : decode cX7_learnsOf 107 = .ok (.iload_n 1, 1) := by decide +kernel
theorem dX7_learnsOf_108 : decode cX7_learnsOf 108 = .ok (.iaload, 1) := by decide +kernel
theorem dX7_learnsOf_109 : decode cX7_learnsOf 109 = .ok (.iadd, 1) := by decide +kernel
theorem dX7_learnsOf_110 : decode cX7_learnsOf 110 = .ok (.goto 26, 3) := by decide +kernel
theorem dX7_learnsOf_113 : decode cX7_learnsOf 113 = .ok (.iload 7, 2) := by decide +kernel
theorem dX7_learnsOf_115 : decode cX7_learnsOf 115 = .ok (.goto 21, 3) := by decide +kernel
theorem dX7_learnsOf_118 : decode cX7_learnsOf 118 = .ok (.iload 4, 2) := by decide +kernel
theorem dX7_learnsOf_120 : decode cX7_learnsOf 120 = .ok (.iconst 5, 1) := by decide +kernel
theorem dX7_learnsOf_121 : decode cX7_learnsOf 121 = .ok (.if_icmp .ne 13, 3) := by decide +kernel
theorem dX7_learnsOf_124 : decode cX7_learnsOf 124 = .ok (.iload 5, 2) := by decide +kernel
theorem dX7_learnsOf_126 : decode cX7_learnsOf 126 = .ok (.iconst 3, 1) := by decide +kernel
theorem dX7_learnsOf_127 : decode cX7_learnsOf 127 = .ok (.if_icmp .le 7, 3) := by decide +kernel
theorem dX7_learnsOf_130 : decode cX7_learnsOf 130 = .ok (.iconst 3, 1) := by decide +kernel
theorem dX7_learnsOf_131 : decode cX7_learnsOf 131 = .ok (.goto 5, 3) := by decide +kernel
theorem dX7_learnsOf_134 : decode cX7_learnsOf 134 = .ok (.iload 5, 2) := by decide +kernel
theorem dX7_learnsOf_136 : decode cX7_learnsOf 136 = .ok (.istore 8, 2) := by decide +kernel
theorem dX7_learnsOf_138 : decode cX7_learnsOf 138 = .ok (.iload 8, 2) := by decide +kernel
theorem dX7_learnsOf_140 : decode cX7_learnsOf 140 = .ok (.iconst 0, 1) := by decide +kernel
theorem dX7_learnsOf_141 : decode cX7_learnsOf 141 = .ok (.bipush 99, 2) := by decide +kernel
theorem dX7_learnsOf_143 : decode cX7_learnsOf 143 = .ok (.invokestatic 340, 3) := by decide +kernel
theorem dX7_learnsOf_146 : decode cX7_learnsOf 146 = .ok (.ireturn, 1) := by decide +kernel
theorem dX7_forgetsOf_0 : decode cX7_forgetsOf 0 = .ok (.aload_n 0, 1) := by decide +kernel
theorem dX7_forgetsOf_1 : decode cX7_forgetsOf 1 = .ok (.getfield 26, 3) := by decide +kernel
theorem dX7_forgetsOf_4 : decode cX7_forgetsOf 4 = .ok (.iload_n 1, 1) := by decide +kernel
theorem dX7_forgetsOf_5 : decode cX7_forgetsOf 5 = .ok (.iaload, 1) := by decide +kernel
theorem dX7_forgetsOf_6 : decode cX7_forgetsOf 6 = .ok (.istore_n 3, 1) := by decide +kernel
theorem dX7_forgetsOf_7 : decode cX7_forgetsOf 7 = .ok (.aload_n 0, 1) := by decide +kernel
theorem dX7_forgetsOf_8 : decode cX7_forgetsOf 8 = .ok (.iconst 1, 1) := by decide +kernel
theorem dX7_forgetsOf_9 : decode cX7_forgetsOf 9 = .ok (.iload_n 1, 1) := by decide +kernel
theorem dX7_forgetsOf_10 : decode cX7_forgetsOf 10 = .ok (.iload_n 2, 1) := by decide +kernel
theorem dX7_forgetsOf_11 : decode cX7_forgetsOf 11 = .ok (.iconst 0, 1) := by decide +kernel
theorem dX7_forgetsOf_12 : decode cX7_forgetsOf 12 = .ok (.invokevirtual 344, 3) := by decide +kernel
theorem dX7_forgetsOf_15 : decode cX7_forgetsOf 15 = .ok (.istore 4, 2) := by decide +kernel
theorem dX7_forgetsOf_17 : decode cX7_forgetsOf 17 = .ok (.iload_n 3, 1) := by decide +kernel
theorem dX7_forgetsOf_18 : decode cX7_forgetsOf 18 = .ok (.iconst 2, 1) := by decide +kernel
theorem dX7_forgetsOf_19 : decode cX7_forgetsOf 19 = .ok (.if_icmp .eq 8, 3) := by decide +kernel
theorem dX7_forgetsOf_22 : decode cX7_forgetsOf 22 = .ok (.iload_n 3, 1) := by decide +kernel
theorem dX7_forgetsOf_23 : decode cX7_forgetsOf 23 = .ok (.iconst 4, 1) := by decide +kernel
theorem dX7_forgetsOf_24 : decode cX7_forgetsOf 24 = .ok (.if_icmp .ne 10, 3) := by decide +kernel
theorem dX7_forgetsOf_27 : decode cX7_forgetsOf 27 = .ok (.iload 4, 2) := by decide +kernel
theorem dX7_forgetsOf_29 : decode cX7_forgetsOf 29 = .ok (.iconst 1, 1) := by decide +kernel
theorem dX7_forgetsOf_30 : decode cX7_forgetsOf 30 = .ok (.iadd, 1) := by decide +kernel
theorem dX7_forgetsOf_31 : decode cX7_forgetsOf 31 = .ok (.goto 34, 3) := by decide +kernel
theorem dX7_forgetsOf_34 : decode cX7_forgetsOf 34 = .ok (.iload_n 3, 1) := by decide +kernel
theorem dX7_forgetsOf_35 : decode cX7_forgetsOf 35 = .ok (.iconst 3, 1) := by decide +kernel
theorem dX7_forgetsOf_36 : decode cX7_forgetsOf 36 = .ok (.if_icmp .ne 10, 3) := by decide +kernel
theorem dX7_forgetsOf_39 : decode cX7_forgetsOf 39 = .ok (.iconst 2, 1) := by decide +kernel
theorem dX7_forgetsOf_40 : decode cX7_forgetsOf 40 = .ok (.iload 4, 2) := by decide +kernel
theorem dX7_forgetsOf_42 : decode cX7_forgetsOf 42 = .ok (.imul, 1) := by decide +kernel
theorem dX7_forgetsOf_43 : decode cX7_forgetsOf 43 = .ok (.goto 22, 3) := by decide +kernel
theorem dX7_forgetsOf_46 : decode cX7_forgetsOf 46 = .ok (.iload_n 3, 1) := by decide +kernel
theorem dX7_forgetsOf_47 : decode cX7_forgetsOf 47 = .ok (.iconst 5, 1) := by decide +kernel
theorem dX7_forgetsOf_48 : decode cX7_forgetsOf 48 = .ok (.if_icmp .ne 15, 3) := by decide +kernel
theorem dX7_forgetsOf_51 : decode cX7_forgetsOf 51 = .ok (.iload 4, 2) := by decide +kernel
theorem dX7_forgetsOf_53 : decode cX7_forgetsOf 53 = .ok (.aload_n 0, 1) := by decide +kernel
theorem dX7_forgetsOf_54 : decode cX7_forgetsOf 54 = .ok (.getfield 29, 3) := by decide +kernel
theorem dX7_forgetsOf_57 : decode cX7_forgetsOf 57 = .ok (.iload_n 1, 1) := by decide +kernel
theorem dX7_forgetsOf_58 : decode cX7_forgetsOf 58 = .ok (.iaload, 1) := by decide +kernel
theorem dX7_forgetsOf_59 : decode cX7_forgetsOf 59 = .ok (.iadd, 1) := by decide +kernel
theorem dX7_forgetsOf_60 : decode cX7_forgetsOf 60 = .ok (.goto 5, 3) := by decide +kernel
theorem dX7_forgetsOf_63 : decode cX7_forgetsOf 63 = .ok (.iload 4, 2) := by decide +kernel
theorem dX7_forgetsOf_65 : decode cX7_forgetsOf 65 = .ok (.iconst 0, 1) := by decide +kernel
theorem dX7_forgetsOf_66 : decode cX7_forgetsOf 66 = .ok (.bipush 99, 2) := by decide +kernel
theorem dX7_forgetsOf_68 : decode cX7_forgetsOf 68 = .ok (.invokestatic 340, 3) := by decide +kernel
theorem dX7_forgetsOf_71 : decode cX7_forgetsOf 71 = .ok (.ireturn, 1) := by decide +kernel
theorem dX7_nerveOf_0 : decode cX7_nerveOf 0 = .ok (.aload_n 0, 1) := by decide +kernel
theorem dX7_nerveOf_1 : decode cX7_nerveOf 1 = .ok (.getfield 26, 3) := by decide +kernel
theorem dX7_nerveOf_4 : decode cX7_nerveOf 4 = .ok (.iload_n 1, 1) := by decide +kernel
theorem dX7_nerveOf_5 : decode cX7_nerveOf 5 = .ok (.iaload, 1) := by decide +kernel
theorem dX7_nerveOf_6 : decode cX7_nerveOf 6 = .ok (.istore_n 3, 1) := by decide +kernel
theorem dX7_nerveOf_7 : decode cX7_nerveOf 7 = .ok (.iload_n 3, 1) := by decide +kernel
theorem dX7_nerveOf_8 : decode cX7_nerveOf 8 = .ok (.iconst 4, 1) := by decide +kernel
theorem dX7_nerveOf_9 : decode cX7_nerveOf 9 = .ok (.if_icmp .ne 20, 3) := by decide +kernel
theorem dX7_nerveOf_12 : decode cX7_nerveOf 12 = .ok (.aload_n 0, 1) := by decide +kernel
theorem dX7_nerveOf_13 : decode cX7_nerveOf 13 = .ok (.getfield 32, 3) := by decide +kernel
theorem dX7_nerveOf_16 : decode cX7_nerveOf 16 = .ok (.iload_n 1, 1) := by decide +kernel
theorem dX7_nerveOf_17 : decode cX7_nerveOf 17 = .ok (.bipush 8, 2) := by decide +kernel
theorem dX7_nerveOf_19 : decode cX7_nerveOf 19 = .ok (.invokestatic 114, 3) := by decide +kernel
theorem dX7_nerveOf_22 : decode cX7_nerveOf 22 = .ok (.iaload, 1) := by decide +kernel
theorem dX7_nerveOf_23 : decode cX7_nerveOf 23 = .ok (.iconst 1, 1) := by decide +kernel
theorem dX7_nerveOf_24 : decode cX7_nerveOf 24 = .ok (.if_icmp .le 5, 3) := by decide +kernel
theorem dX7_nerveOf_27 : decode cX7_nerveOf 27 = .ok (.iconst 0, 1) := by decide +kernel
theorem dX7_nerveOf_28 : decode cX7_nerveOf 28 = .ok (.ireturn, 1) := by decide +kernel
theorem dX7_nerveOf_29 : decode cX7_nerveOf 29 = .ok (.aload_n 0, 1) := by decide +kernel
theorem dX7_nerveOf_30 : decode cX7_nerveOf 30 = .ok (.iconst 2, 1) := by decide +kernel
theorem dX7_nerveOf_31 : decode cX7_nerveOf 31 = .ok (.iload_n 1, 1) := by decide +kernel
theorem dX7_nerveOf_32 : decode cX7_nerveOf 32 = .ok (.iload_n 2, 1) := by decide +kernel
theorem dX7_nerveOf_33 : decode cX7_nerveOf 33 = .ok (.iconst 0, 1) := by decide +kernel
theorem dX7_nerveOf_34 : decode cX7_nerveOf 34 = .ok (.invokevirtual 344, 3) := by decide +kernel
theorem dX7_nerveOf_37 : decode cX7_nerveOf 37 = .ok (.istore 4, 2) := by decide +kernel
theorem dX7_nerveOf_39 : decode cX7_nerveOf 39 = .ok (.iload_n 3, 1) := by decide +kernel
theorem dX7_nerveOf_40 : decode cX7_nerveOf 40 = .ok (.iconst 1, 1) := by decide +kernel
theorem dX7_nerveOf_41 : decode cX7_nerveOf 41 = .ok (.if_icmp .ne 10, 3) := by decide +kernel
theorem dX7_nerveOf_44 : decode cX7_nerveOf 44 = .ok (.iload 4, 2) := by decide +kernel
theorem dX7_nerveOf_46 : decode cX7_nerveOf 46 = .ok (.iconst 5, 1) := by decide +kernel
theorem dX7_nerveOf_47 : decode cX7_nerveOf 47 = .ok (.iadd, 1) := by decide +kernel
theorem dX7_nerveOf_48 : decode cX7_nerveOf 48 = .ok (.goto 53, 3) := by decide +kernel
theorem dX7_nerveOf_51 : decode cX7_nerveOf 51 = .ok (.iload_n 3, 1) := by decide +kernel
theorem dX7_nerveOf_52 : decode cX7_nerveOf 52 = .ok (.iconst 3, 1) := by decide +kernel
theorem dX7_nerveOf_53 : decode cX7_nerveOf 53 = .ok (.if_icmp .ne 17, 3) := by decide +kernel
theorem dX7_nerveOf_56 : decode cX7_nerveOf 56 = .ok (.iload 4, 2) := by decide +kernel
theorem dX7_nerveOf_58 : decode cX7_nerveOf 58 = .ok (.iconst 5, 1) := by decide +kernel
theorem dX7_nerveOf_59 : decode cX7_nerveOf 59 = .ok (.iadd, 1) := by decide +kernel
theorem dX7_nerveOf_60 : decode cX7_nerveOf 60 = .ok (.aload_n 0, 1) := by decide +kernel
theorem dX7_nerveOf_61 : decode cX7_nerveOf 61 = .ok (.getfield 29, 3) := by decide +kernel
theorem dX7_nerveOf_64 : decode cX7_nerveOf 64 = .ok (.iload_n 1, 1) := by decide +kernel
theorem dX7_nerveOf_65 : decode cX7_nerveOf 65 = .ok (.iaload, 1) := by decide +kernel
theorem dX7_nerveOf_66 : decode cX7_nerveOf 66 = .ok (.iadd, 1) := by decide +kernel
theorem dX7_nerveOf_67 : decode cX7_nerveOf 67 = .ok (.goto 34, 3) := by decide +kernel
theorem dX7_nerveOf_70 : decode cX7_nerveOf 70 = .ok (.iload_n 3, 1) := by decide +kernel
theorem dX7_nerveOf_71 : decode cX7_nerveOf 71 = .ok (.iconst 2, 1) := by decide +kernel
theorem dX7_nerveOf_72 : decode cX7_nerveOf 72 = .ok (.if_icmp .eq 8, 3) := by decide +kernel
theorem dX7_nerveOf_75 : decode cX7_nerveOf 75 = .ok (.iload_n 3, 1) := by decide +kernel
theorem dX7_nerveOf_76 : decode cX7_nerveOf 76 = .ok (.iconst 4, 1) := by decide +kernel
theorem dX7_nerveOf_77 : decode cX7_nerveOf 77 = .ok (.if_icmp .ne 10, 3) := by decide +kernel
theorem dX7_nerveOf_80 : decode cX7_nerveOf 80 = .ok (.iload 4, 2) := by decide +kernel
theorem dX7_nerveOf_82 : decode cX7_nerveOf 82 = .ok (.iconst 5, 1) := by decide +kernel
theorem dX7_nerveOf_83 : decode cX7_nerveOf 83 = .ok (.isub, 1) := by decide +kernel
theorem dX7_nerveOf_84 : decode cX7_nerveOf 84 = .ok (.goto 17, 3) := by decide +kernel
theorem dX7_nerveOf_87 : decode cX7_nerveOf 87 = .ok (.iload_n 3, 1) := by decide +kernel
theorem dX7_nerveOf_88 : decode cX7_nerveOf 88 = .ok (.iconst 5, 1) := by decide +kernel
theorem dX7_nerveOf_89 : decode cX7_nerveOf 89 = .ok (.if_icmp .ne 10, 3) := by decide +kernel
theorem dX7_nerveOf_92 : decode cX7_nerveOf 92 = .ok (.iload 4, 2) := by decide +kernel
theorem dX7_nerveOf_94 : decode cX7_nerveOf 94 = .ok (.iconst 2, 1) := by decide +kernel
theorem dX7_nerveOf_95 : decode cX7_nerveOf 95 = .ok (.idiv, 1) := by decide +kernel
theorem dX7_nerveOf_96 : decode cX7_nerveOf 96 = .ok (.goto 5, 3) := by decide +kernel
theorem dX7_nerveOf_99 : decode cX7_nerveOf 99 = .ok (.iload 4, 2) := by decide +kernel
theorem dX7_nerveOf_101 : decode cX7_nerveOf 101 = .ok (.ireturn, 1) := by decide +kernel
theorem dX7_overOf_0 : decode cX7_overOf 0 = .ok (.aload_n 0, 1) := by decide +kernel
theorem dX7_overOf_1 : decode cX7_overOf 1 = .ok (.getfield 32, 3) := by decide +kernel
theorem dX7_overOf_4 : decode cX7_overOf 4 = .ok (.iload_n 1, 1) := by decide +kernel
theorem dX7_overOf_5 : decode cX7_overOf 5 = .ok (.iload_n 2, 1) := by decide +kernel
theorem dX7_overOf_6 : decode cX7_overOf 6 = .ok (.invokestatic 114, 3) := by decide +kernel
theorem dX7_overOf_9 : decode cX7_overOf 9 = .ok (.iaload, 1) := by decide +kernel
theorem dX7_overOf_10 : decode cX7_overOf 10 = .ok (.aload_n 0, 1) := by decide +kernel
theorem dX7_overOf_11 : decode cX7_overOf 11 = .ok (.iload_n 1, 1) := by decide +kernel
theorem dX7_overOf_12 : decode cX7_overOf 12 = .ok (.iload_n 2, 1) := by decide +kernel
theorem dX7_overOf_13 : decode cX7_overOf 13 = .ok (.invokevirtual 348, 3) := by decide +kernel
theorem dX7_overOf_16 : decode cX7_overOf 16 = .ok (.iadd, 1) := by decide +kernel
theorem dX7_overOf_17 : decode cX7_overOf 17 = .ok (.aload_n 0, 1) := by decide +kernel
theorem dX7_overOf_18 : decode cX7_overOf 18 = .ok (.getfield 23, 3) := by decide +kernel
theorem dX7_overOf_21 : decode cX7_overOf 21 = .ok (.iload_n 2, 1) := by decide +kernel
theorem dX7_overOf_22 : decode cX7_overOf 22 = .ok (.iaload, 1) := by decide +kernel
theorem dX7_overOf_23 : decode cX7_overOf 23 = .ok (.isub, 1) := by decide +kernel
theorem dX7_overOf_24 : decode cX7_overOf 24 = .ok (.ireturn, 1) := by decide +kernel
theorem dX7_manages_0 : decode cX7_manages 0 = .ok (.aload_n 0, 1) := by decide +kernel
theorem dX7_manages_1 : decode cX7_manages 1 = .ok (.iload_n 1, 1) := by decide +kernel
theorem dX7_manages_2 : decode cX7_manages 2 = .ok (.iload_n 2, 1) := by decide +kernel
theorem dX7_manages_3 : decode cX7_manages 3 = .ok (.invokevirtual 351, 3) := by decide +kernel
theorem dX7_manages_6 : decode cX7_manages 6 = .ok (.ifCond .lt 7, 3) := by decide +kernel
theorem dX7_manages_9 : decode cX7_manages 9 = .ok (.iconst 1, 1) := by decide +kernel
theorem dX7_manages_10 : decode cX7_manages 10 = .ok (.goto 4, 3) := by decide +kernel
theorem dX7_manages_13 : decode cX7_manages 13 = .ok (.iconst 0, 1) := by decide +kernel
theorem dX7_manages_14 : decode cX7_manages 14 = .ok (.ireturn, 1) := by decide +kernel
theorem dX7_managedMany_0 : decode cX7_managedMany 0 = .ok (.iconst 0, 1) := by decide +kernel
theorem dX7_managedMany_1 : decode cX7_managedMany 1 = .ok (.istore_n 2, 1) := by decide +kernel
theorem dX7_managedMany_2 : decode cX7_managedMany 2 = .ok (.iconst 0, 1) := by decide +kernel
theorem dX7_managedMany_3 : decode cX7_managedMany 3 = .ok (.istore_n 3, 1) := by decide +kernel
theorem dX7_managedMany_4 : decode cX7_managedMany 4 = .ok (.iload_n 3, 1) := by decide +kernel
theorem dX7_managedMany_5 : decode cX7_managedMany 5 = .ok (.bipush 8, 2) := by decide +kernel
theorem dX7_managedMany_7 : decode cX7_managedMany 7 = .ok (.if_icmp .ge 26, 3) := by decide +kernel
theorem dX7_managedMany_10 : decode cX7_managedMany 10 = .ok (.iload_n 2, 1) := by decide +kernel
theorem dX7_managedMany_11 : decode cX7_managedMany 11 = .ok (.aload_n 0, 1) := by decide +kernel
theorem dX7_managedMany_12 : decode cX7_managedMany 12 = .ok (.iload_n 1, 1) := by decide +kernel
theorem dX7_managedMany_13 : decode cX7_managedMany 13 = .ok (.iload_n 3, 1) := by decide +kernel
theorem dX7_managedMany_14 : decode cX7_managedMany 14 = .ok (.invokevirtual 128, 3) := by decide +kernel
theorem dX7_managedMany_17 : decode cX7_managedMany 17 = .ok (.ifCond .eq 7, 3) := by decide +kernel
theorem dX7_managedMany_20 : decode cX7_managedMany 20 = .ok (.iconst 1, 1) := by decide +kernel
theorem dX7_managedMany_21 : decode cX7_managedMany 21 = .ok (.goto 4, 3) := by decide +kernel
theorem dX7_managedMany_24 : decode cX7_managedMany 24 = .ok (.iconst 0, 1) := by decide +kernel
theorem dX7_managedMany_25 : decode cX7_managedMany 25 = .ok (.iadd, 1) := by decide +kernel
theorem dX7_managedMany_26 : decode cX7_managedMany 26 = .ok (.istore_n 2, 1) := by decide +kernel
theorem dX7_managedMany_27 : decode cX7_managedMany 27 = .ok (.iinc 3 1, 3) := by decide +kernel
theorem dX7_managedMany_30 : decode cX7_managedMany 30 = .ok (.goto (-26), 3) := by decide +kernel
theorem dX7_managedMany_33 : decode cX7_managedMany 33 = .ok (.iload_n 2, 1) := by decide +kernel
theorem dX7_managedMany_34 : decode cX7_managedMany 34 = .ok (.ireturn, 1) := by decide +kernel
theorem dX7_asks_0 : decode cX7_asks 0 = .ok (.aload_n 0, 1) := by decide +kernel
theorem dX7_asks_1 : decode cX7_asks 1 = .ok (.iload_n 1, 1) := by decide +kernel
theorem dX7_asks_2 : decode cX7_asks 2 = .ok (.invokevirtual 86, 3) := by decide +kernel
theorem dX7_asks_5 : decode cX7_asks 5 = .ok (.ifCond .eq 22, 3) := by decide +kernel
theorem dX7_asks_8 : decode cX7_asks 8 = .ok (.iload_n 2, 1) := by decide +kernel
theorem dX7_asks_9 : decode cX7_asks 9 = .ok (.invokestatic 82, 3) := by decide +kernel
theorem dX7_asks_12 : decode cX7_asks 12 = .ok (.ifCond .eq 15, 3) := by decide +kernel
theorem dX7_asks_15 : decode cX7_asks 15 = .ok (.iload_n 3, 1) := by decide +kernel
theorem dX7_asks_16 : decode cX7_asks 16 = .ok (.i2l, 1) := by decide +kernel
theorem dX7_asks_17 : decode cX7_asks 17 = .ok (.lconst 0, 1) := by decide +kernel
theorem dX7_asks_18 : decode cX7_asks 18 = .ok (.ldc2_w 89, 3) := by decide +kernel
theorem dX7_asks_21 : decode cX7_asks 21 = .ok (.invokestatic 76, 3) := by decide +kernel
theorem dX7_asks_24 : decode cX7_asks 24 = .ok (.ifCond .ne 7, 3) := by decide +kernel
theorem dX7_asks_27 : decode cX7_asks 27 = .ok (.sipush (-1000), 3) := by decide +kernel
theorem dX7_asks_30 : decode cX7_asks 30 = .ok (.ireturn, 1) := by decide +kernel
theorem dX7_asks_31 : decode cX7_asks 31 = .ok (.iload_n 3, 1) := by decide +kernel
theorem dX7_asks_32 : decode cX7_asks 32 = .ok (.iconst 3, 1) := by decide +kernel
theorem dX7_asks_33 : decode cX7_asks 33 = .ok (.if_icmp .ge 13, 3) := by decide +kernel
theorem dX7_asks_36 : decode cX7_asks 36 = .ok (.aload_n 0, 1) := by decide +kernel
theorem dX7_asks_37 : decode cX7_asks 37 = .ok (.iload_n 1, 1) := by decide +kernel
theorem dX7_asks_38 : decode cX7_asks 38 = .ok (.iload_n 2, 1) := by decide +kernel
theorem dX7_asks_39 : decode cX7_asks 39 = .ok (.iload_n 3, 1) := by decide +kernel
theorem dX7_asks_40 : decode cX7_asks 40 = .ok (.invokevirtual 354, 3) := by decide +kernel
theorem dX7_asks_43 : decode cX7_asks 43 = .ok (.goto 23, 3) := by decide +kernel
theorem dX7_asks_46 : decode cX7_asks 46 = .ok (.iload_n 3, 1) := by decide +kernel
theorem dX7_asks_47 : decode cX7_asks 47 = .ok (.iconst 3, 1) := by decide +kernel
theorem dX7_asks_48 : decode cX7_asks 48 = .ok (.if_icmp .ne 12, 3) := by decide +kernel
theorem dX7_asks_51 : decode cX7_asks 51 = .ok (.aload_n 0, 1) := by decide +kernel
theorem dX7_asks_52 : decode cX7_asks 52 = .ok (.iload_n 1, 1) := by decide +kernel
theorem dX7_asks_53 : decode cX7_asks 53 = .ok (.iload_n 2, 1) := by decide +kernel
theorem dX7_asks_54 : decode cX7_asks 54 = .ok (.invokevirtual 357, 3) := by decide +kernel
theorem dX7_asks_57 : decode cX7_asks 57 = .ok (.goto 9, 3) := by decide +kernel
theorem dX7_asks_60 : decode cX7_asks 60 = .ok (.aload_n 0, 1) := by decide +kernel
theorem dX7_asks_61 : decode cX7_asks 61 = .ok (.iload_n 1, 1) := by decide +kernel
theorem dX7_asks_62 : decode cX7_asks 62 = .ok (.iload_n 2, 1) := by decide +kernel
theorem dX7_asks_63 : decode cX7_asks 63 = .ok (.invokevirtual 348, 3) := by decide +kernel
theorem dX7_asks_66 : decode cX7_asks 66 = .ok (.ireturn, 1) := by decide +kernel
theorem dX7_drives_0 : decode cX7_drives 0 = .ok (.aload_n 0, 1) := by decide +kernel
theorem dX7_drives_1 : decode cX7_drives 1 = .ok (.iload_n 1, 1) := by decide +kernel
theorem dX7_drives_2 : decode cX7_drives 2 = .ok (.iload_n 2, 1) := by decide +kernel
theorem dX7_drives_3 : decode cX7_drives 3 = .ok (.iload_n 3, 1) := by decide +kernel
theorem dX7_drives_4 : decode cX7_drives 4 = .ok (.invokevirtual 354, 3) := by decide +kernel
theorem dX7_drives_7 : decode cX7_drives 7 = .ok (.istore 4, 2) := by decide +kernel
theorem dX7_drives_9 : decode cX7_drives 9 = .ok (.iload_n 3, 1) := by decide +kernel
theorem dX7_drives_10 : decode cX7_drives 10 = .ok (.iconst 2, 1) := by decide +kernel
theorem dX7_drives_11 : decode cX7_drives 11 = .ok (.if_icmp .eq 16, 3) := by decide +kernel
theorem dX7_drives_14 : decode cX7_drives 14 = .ok (.aload_n 0, 1) := by decide +kernel
theorem dX7_drives_15 : decode cX7_drives 15 = .ok (.iload_n 1, 1) := by decide +kernel
theorem dX7_drives_16 : decode cX7_drives 16 = .ok (.iload_n 2, 1) := by decide +kernel
theorem dX7_drives_17 : decode cX7_drives 17 = .ok (.invokevirtual 128, 3) := by decide +kernel
theorem dX7_drives_20 : decode cX7_drives 20 = .ok (.ifCond .ne 7, 3) := by decide +kernel
theorem dX7_drives_23 : decode cX7_drives 23 = .ok (.iconst 1, 1) := by decide +kernel
theorem dX7_drives_24 : decode cX7_drives 24 = .ok (.goto 4, 3) := by decide +kernel
theorem dX7_drives_27 : decode cX7_drives 27 = .ok (.iconst 0, 1) := by decide +kernel
theorem dX7_drives_28 : decode cX7_drives 28 = .ok (.istore 5, 2) := by decide +kernel
theorem dX7_drives_30 : decode cX7_drives 30 = .ok (.aload_n 0, 1) := by decide +kernel
theorem dX7_drives_31 : decode cX7_drives 31 = .ok (.getfield 32, 3) := by decide +kernel
theorem dX7_drives_34 : decode cX7_drives 34 = .ok (.iload_n 1, 1) := by decide +kernel
theorem dX7_drives_35 : decode cX7_drives 35 = .ok (.iload_n 2, 1) := by decide +kernel
theorem dX7_drives_36 : decode cX7_drives 36 = .ok (.invokestatic 114, 3) := by decide +kernel
theorem dX7_drives_39 : decode cX7_drives 39 = .ok (.aload_n 0, 1) := by decide +kernel
theorem dX7_drives_40 : decode cX7_drives 40 = .ok (.getfield 32, 3) := by decide +kernel
theorem dX7_drives_43 : decode cX7_drives 43 = .ok (.iload_n 1, 1) := by decide +kernel
theorem dX7_drives_44 : decode cX7_drives 44 = .ok (.iload_n 2, 1) := by decide +kernel
theorem dX7_drives_45 : decode cX7_drives 45 = .ok (.invokestatic 114, 3) := by decide +kernel
theorem dX7_drives_48 : decode cX7_drives 48 = .ok (.iaload, 1) := by decide +kernel
theorem dX7_drives_49 : decode cX7_drives 49 = .ok (.iload 5, 2) := by decide +kernel
theorem dX7_drives_51 : decode cX7_drives 51 = .ok (.ifCond .eq 10, 3) := by decide +kernel
theorem dX7_drives_54 : decode cX7_drives 54 = .ok (.iload 4, 2) := by decide +kernel
theorem dX7_drives_56 : decode cX7_drives 56 = .ok (.iconst 2, 1) := by decide +kernel
theorem dX7_drives_57 : decode cX7_drives 57 = .ok (.idiv, 1) := by decide +kernel
theorem dX7_drives_58 : decode cX7_drives 58 = .ok (.goto 5, 3) := by decide +kernel
theorem dX7_drives_61 : decode cX7_drives 61 = .ok (.iload 4, 2) := by decide +kernel
theorem dX7_drives_63 : decode cX7_drives 63 = .ok (.iadd, 1) := by decide +kernel
theorem dX7_drives_64 : decode cX7_drives 64 = .ok (.iconst 0, 1) := by decide +kernel
theorem dX7_drives_65 : decode cX7_drives 65 = .ok (.bipush 99, 2) := by decide +kernel
theorem dX7_drives_67 : decode cX7_drives 67 = .ok (.invokestatic 340, 3) := by decide +kernel
theorem dX7_drives_70 : decode cX7_drives 70 = .ok (.iastore, 1) := by decide +kernel
theorem dX7_drives_71 : decode cX7_drives 71 = .ok (.aload_n 0, 1) := by decide +kernel
theorem dX7_drives_72 : decode cX7_drives 72 = .ok (.getfield 32, 3) := by decide +kernel
theorem dX7_drives_75 : decode cX7_drives 75 = .ok (.iload_n 1, 1) := by decide +kernel
theorem dX7_drives_76 : decode cX7_drives 76 = .ok (.bipush 9, 2) := by decide +kernel
theorem dX7_drives_78 : decode cX7_drives 78 = .ok (.invokestatic 114, 3) := by decide +kernel
theorem dX7_drives_81 : decode cX7_drives 81 = .ok (.aload_n 0, 1) := by decide +kernel
theorem dX7_drives_82 : decode cX7_drives 82 = .ok (.getfield 32, 3) := by decide +kernel
theorem dX7_drives_85 : decode cX7_drives 85 = .ok (.iload_n 1, 1) := by decide +kernel
theorem dX7_drives_86 : decode cX7_drives 86 = .ok (.bipush 9, 2) := by decide +kernel
theorem dX7_drives_88 : decode cX7_drives 88 = .ok (.invokestatic 114, 3) := by decide +kernel
theorem dX7_drives_91 : decode cX7_drives 91 = .ok (.iaload, 1) := by decide +kernel
theorem dX7_drives_92 : decode cX7_drives 92 = .ok (.iload 5, 2) := by decide +kernel
theorem dX7_drives_94 : decode cX7_drives 94 = .ok (.ifCond .eq 7, 3) := by decide +kernel
theorem dX7_drives_97 : decode cX7_drives 97 = .ok (.iconst 1, 1) := by decide +kernel
theorem dX7_drives_98 : decode cX7_drives 98 = .ok (.goto 4, 3) := by decide +kernel
theorem dX7_drives_101 : decode cX7_drives 101 = .ok (.iconst 0, 1) := by decide +kernel
theorem dX7_drives_102 : decode cX7_drives 102 = .ok (.iadd, 1) := by decide +kernel
theorem dX7_drives_103 : decode cX7_drives 103 = .ok (.iconst 0, 1) := by decide +kernel
theorem dX7_drives_104 : decode cX7_drives 104 = .ok (.sipush 999, 3) := by decide +kernel
theorem dX7_drives_107 : decode cX7_drives 107 = .ok (.invokestatic 340, 3) := by decide +kernel
theorem dX7_drives_110 : decode cX7_drives 110 = .ok (.iastore, 1) := by decide +kernel
theorem dX7_drives_111 : decode cX7_drives 111 = .ok (.aload_n 0, 1) := by decide +kernel
theorem dX7_drives_112 : decode cX7_drives 112 = .ok (.getfield 32, 3) := by decide +kernel
theorem dX7_drives_115 : decode cX7_drives 115 = .ok (.iload_n 1, 1) := by decide +kernel
theorem dX7_drives_116 : decode cX7_drives 116 = .ok (.bipush 8, 2) := by decide +kernel
theorem dX7_drives_118 : decode cX7_drives 118 = .ok (.invokestatic 114, 3) := by decide +kernel
theorem dX7_drives_121 : decode cX7_drives 121 = .ok (.aload_n 0, 1) := by decide +kernel
theorem dX7_drives_122 : decode cX7_drives 122 = .ok (.getfield 32, 3) := by decide +kernel
theorem dX7_drives_125 : decode cX7_drives 125 = .ok (.iload_n 1, 1) := by decide +kernel
theorem dX7_drives_126 : decode cX7_drives 126 = .ok (.bipush 8, 2) := by decide +kernel
theorem dX7_drives_128 : decode cX7_drives 128 = .ok (.invokestatic 114, 3) := by decide +kernel
theorem dX7_drives_131 : decode cX7_drives 131 = .ok (.iaload, 1) := by decide +kernel
theorem dX7_drives_132 : decode cX7_drives 132 = .ok (.iconst 1, 1) := by decide +kernel
theorem dX7_drives_133 : decode cX7_drives 133 = .ok (.iadd, 1) := by decide +kernel
theorem dX7_drives_134 : decode cX7_drives 134 = .ok (.iconst 0, 1) := by decide +kernel
theorem dX7_drives_135 : decode cX7_drives 135 = .ok (.bipush 99, 2) := by decide +kernel
theorem dX7_drives_137 : decode cX7_drives 137 = .ok (.invokestatic 340, 3) := by decide +kernel
theorem dX7_drives_140 : decode cX7_drives 140 = .ok (.iastore, 1) := by decide +kernel
theorem dX7_drives_141 : decode cX7_drives 141 = .ok (.return_, 1) := by decide +kernel
theorem dX7_drive_0 : decode cX7_drive 0 = .ok (.aload_n 0, 1) := by decide +kernel
theorem dX7_drive_1 : decode cX7_drive 1 = .ok (.iload_n 1, 1) := by decide +kernel
theorem dX7_drive_2 : decode cX7_drive 2 = .ok (.invokevirtual 86, 3) := by decide +kernel
theorem dX7_drive_5 : decode cX7_drive 5 = .ok (.ifCond .eq 22, 3) := by decide +kernel
theorem dX7_drive_8 : decode cX7_drive 8 = .ok (.iload_n 2, 1) := by decide +kernel
theorem dX7_drive_9 : decode cX7_drive 9 = .ok (.invokestatic 82, 3) := by decide +kernel
theorem dX7_drive_12 : decode cX7_drive 12 = .ok (.ifCond .eq 15, 3) := by decide +kernel
theorem dX7_drive_15 : decode cX7_drive 15 = .ok (.iload_n 3, 1) := by decide +kernel
theorem dX7_drive_16 : decode cX7_drive 16 = .ok (.i2l, 1) := by decide +kernel
theorem dX7_drive_17 : decode cX7_drive 17 = .ok (.lconst 0, 1) := by decide +kernel
theorem dX7_drive_18 : decode cX7_drive 18 = .ok (.ldc2_w 360, 3) := by decide +kernel
theorem dX7_drive_21 : decode cX7_drive 21 = .ok (.invokestatic 76, 3) := by decide +kernel
theorem dX7_drive_24 : decode cX7_drive 24 = .ok (.ifCond .ne 6, 3) := by decide +kernel
theorem dX7_drive_27 : decode cX7_drive 27 = .ok (.bipush (-2), 2) := by decide +kernel
theorem dX7_drive_29 : decode cX7_drive 29 = .ok (.ireturn, 1) := by decide +kernel
theorem dX7_drive_30 : decode cX7_drive 30 = .ok (.aload_n 0, 1) := by decide +kernel
theorem dX7_drive_31 : decode cX7_drive 31 = .ok (.iload_n 1, 1) := by decide +kernel
theorem dX7_drive_32 : decode cX7_drive 32 = .ok (.iload_n 2, 1) := by decide +kernel
theorem dX7_drive_33 : decode cX7_drive 33 = .ok (.iload_n 3, 1) := by decide +kernel
theorem dX7_drive_34 : decode cX7_drive 34 = .ok (.invokevirtual 362, 3) := by decide +kernel
theorem dX7_drive_37 : decode cX7_drive 37 = .ok (.aload_n 0, 1) := by decide +kernel
theorem dX7_drive_38 : decode cX7_drive 38 = .ok (.getfield 32, 3) := by decide +kernel
theorem dX7_drive_41 : decode cX7_drive 41 = .ok (.iload_n 1, 1) := by decide +kernel
theorem dX7_drive_42 : decode cX7_drive 42 = .ok (.iload_n 2, 1) := by decide +kernel
theorem dX7_drive_43 : decode cX7_drive 43 = .ok (.invokestatic 114, 3) := by decide +kernel
theorem dX7_drive_46 : decode cX7_drive 46 = .ok (.iaload, 1) := by decide +kernel
theorem dX7_drive_47 : decode cX7_drive 47 = .ok (.ireturn, 1) := by decide +kernel
theorem dX7_sleeps_0 : decode cX7_sleeps 0 = .ok (.iconst 0, 1) := by decide +kernel
theorem dX7_sleeps_1 : decode cX7_sleeps 1 = .ok (.istore_n 2, 1) := by decide +kernel
theorem dX7_sleeps_2 : decode cX7_sleeps 2 = .ok (.iload_n 2, 1) := by decide +kernel
theorem dX7_sleeps_3 : decode cX7_sleeps 3 = .ok (.bipush 8, 2) := by decide +kernel
theorem dX7_sleeps_5 : decode cX7_sleeps 5 = .ok (.if_icmp .ge 42, 3) := by decide +kernel
theorem dX7_sleeps_8 : decode cX7_sleeps 8 = .ok (.aload_n 0, 1) := by decide +kernel
theorem dX7_sleeps_9 : decode cX7_sleeps 9 = .ok (.getfield 32, 3) := by decide +kernel
theorem dX7_sleeps_12 : decode cX7_sleeps 12 = .ok (.iload_n 1, 1) := by decide +kernel
theorem dX7_sleeps_13 : decode cX7_sleeps 13 = .ok (.iload_n 2, 1) := by decide +kernel
theorem dX7_sleeps_14 : decode cX7_sleeps 14 = .ok (.invokestatic 114, 3) := by decide +kernel
theorem dX7_sleeps_17 : decode cX7_sleeps 17 = .ok (.aload_n 0, 1) := by decide +kernel
theorem dX7_sleeps_18 : decode cX7_sleeps 18 = .ok (.getfield 32, 3) := by decide +kernel
theorem dX7_sleeps_21 : decode cX7_sleeps 21 = .ok (.iload_n 1, 1) := by decide +kernel
theorem dX7_sleeps_22 : decode cX7_sleeps 22 = .ok (.iload_n 2, 1) := by decide +kernel
theorem dX7_sleeps_23 : decode cX7_sleeps 23 = .ok (.invokestatic 114, 3) := by decide +kernel
theorem dX7_sleeps_26 : decode cX7_sleeps 26 = .ok (.iaload, 1) := by decide +kernel
theorem dX7_sleeps_27 : decode cX7_sleeps 27 = .ok (.aload_n 0, 1) := by decide +kernel
theorem dX7_sleeps_28 : decode cX7_sleeps 28 = .ok (.iload_n 1, 1) := by decide +kernel
theorem dX7_sleeps_29 : decode cX7_sleeps 29 = .ok (.iload_n 2, 1) := by decide +kernel
theorem dX7_sleeps_30 : decode cX7_sleeps 30 = .ok (.invokevirtual 357, 3) := by decide +kernel
theorem dX7_sleeps_33 : decode cX7_sleeps 33 = .ok (.isub, 1) := by decide +kernel
theorem dX7_sleeps_34 : decode cX7_sleeps 34 = .ok (.iconst 0, 1) := by decide +kernel
theorem dX7_sleeps_35 : decode cX7_sleeps 35 = .ok (.bipush 99, 2) := by decide +kernel
theorem dX7_sleeps_37 : decode cX7_sleeps 37 = .ok (.invokestatic 340, 3) := by decide +kernel
theorem dX7_sleeps_40 : decode cX7_sleeps 40 = .ok (.iastore, 1) := by decide +kernel
theorem dX7_sleeps_41 : decode cX7_sleeps 41 = .ok (.iinc 2 1, 3) := by decide +kernel
theorem dX7_sleeps_44 : decode cX7_sleeps 44 = .ok (.goto (-42), 3) := by decide +kernel
theorem dX7_sleeps_47 : decode cX7_sleeps 47 = .ok (.aload_n 0, 1) := by decide +kernel
theorem dX7_sleeps_48 : decode cX7_sleeps 48 = .ok (.getfield 32, 3) := by decide +kernel
theorem dX7_sleeps_51 : decode cX7_sleeps 51 = .ok (.iload_n 1, 1) := by decide +kernel
theorem dX7_sleeps_52 : decode cX7_sleeps 52 = .ok (.bipush 8, 2) := by decide +kernel
theorem dX7_sleeps_54 : decode cX7_sleeps 54 = .ok (.invokestatic 114, 3) := by decide +kernel
theorem dX7_sleeps_57 : decode cX7_sleeps 57 = .ok (.iconst 0, 1) := by decide +kernel
theorem dX7_sleeps_58 : decode cX7_sleeps 58 = .ok (.iastore, 1) := by decide +kernel
theorem dX7_sleeps_59 : decode cX7_sleeps 59 = .ok (.return_, 1) := by decide +kernel
theorem dX7_readyMany_0 : decode cX7_readyMany 0 = .ok (.iconst 0, 1) := by decide +kernel
theorem dX7_readyMany_1 : decode cX7_readyMany 1 = .ok (.istore_n 1, 1) := by decide +kernel
theorem dX7_readyMany_2 : decode cX7_readyMany 2 = .ok (.iconst 0, 1) := by decide +kernel
theorem dX7_readyMany_3 : decode cX7_readyMany 3 = .ok (.istore_n 2, 1) := by decide +kernel
theorem dX7_readyMany_4 : decode cX7_readyMany 4 = .ok (.iload_n 2, 1) := by decide +kernel
theorem dX7_readyMany_5 : decode cX7_readyMany 5 = .ok (.aload_n 0, 1) := by decide +kernel
theorem dX7_readyMany_6 : decode cX7_readyMany 6 = .ok (.getfield 73, 3) := by decide +kernel
theorem dX7_readyMany_9 : decode cX7_readyMany 9 = .ok (.if_icmp .ge 27, 3) := by decide +kernel
theorem dX7_readyMany_12 : decode cX7_readyMany 12 = .ok (.iload_n 1, 1) := by decide +kernel
theorem dX7_readyMany_13 : decode cX7_readyMany 13 = .ok (.aload_n 0, 1) := by decide +kernel
theorem dX7_readyMany_14 : decode cX7_readyMany 14 = .ok (.iload_n 2, 1) := by decide +kernel
theorem dX7_readyMany_15 : decode cX7_readyMany 15 = .ok (.invokevirtual 131, 3) := by decide +kernel
theorem dX7_readyMany_18 : decode cX7_readyMany 18 = .ok (.bipush 8, 2) := by decide +kernel
theorem dX7_readyMany_20 : decode cX7_readyMany 20 = .ok (.if_icmp .ne 7, 3) := by decide +kernel
theorem dX7_readyMany_23 : decode cX7_readyMany 23 = .ok (.iconst 1, 1) := by decide +kernel
theorem dX7_readyMany_24 : decode cX7_readyMany 24 = .ok (.goto 4, 3) := by decide +kernel
theorem dX7_readyMany_27 : decode cX7_readyMany 27 = .ok (.iconst 0, 1) := by decide +kernel
theorem dX7_readyMany_28 : decode cX7_readyMany 28 = .ok (.iadd, 1) := by decide +kernel
theorem dX7_readyMany_29 : decode cX7_readyMany 29 = .ok (.istore_n 1, 1) := by decide +kernel
theorem dX7_readyMany_30 : decode cX7_readyMany 30 = .ok (.iinc 2 1, 3) := by decide +kernel
theorem dX7_readyMany_33 : decode cX7_readyMany 33 = .ok (.goto (-29), 3) := by decide +kernel
theorem dX7_readyMany_36 : decode cX7_readyMany 36 = .ok (.iload_n 1, 1) := by decide +kernel
theorem dX7_readyMany_37 : decode cX7_readyMany 37 = .ok (.ireturn, 1) := by decide +kernel
theorem dX7_night_0 : decode cX7_night 0 = .ok (.aload_n 0, 1) := by decide +kernel
theorem dX7_night_1 : decode cX7_night 1 = .ok (.getfield 111, 3) := by decide +kernel
theorem dX7_night_4 : decode cX7_night 4 = .ok (.sipush 999, 3) := by decide +kernel
theorem dX7_night_7 : decode cX7_night 7 = .ok (.if_icmp .ne 6, 3) := by decide +kernel
theorem dX7_night_10 : decode cX7_night 10 = .ok (.bipush (-3), 2) := by decide +kernel
theorem dX7_night_12 : decode cX7_night 12 = .ok (.ireturn, 1) := by decide +kernel
theorem dX7_night_13 : decode cX7_night 13 = .ok (.iconst 0, 1) := by decide +kernel
theorem dX7_night_14 : decode cX7_night 14 = .ok (.istore_n 1, 1) := by decide +kernel
theorem dX7_night_15 : decode cX7_night 15 = .ok (.iload_n 1, 1) := by decide +kernel
theorem dX7_night_16 : decode cX7_night 16 = .ok (.aload_n 0, 1) := by decide +kernel
theorem dX7_night_17 : decode cX7_night 17 = .ok (.getfield 73, 3) := by decide +kernel
theorem dX7_night_20 : decode cX7_night 20 = .ok (.if_icmp .ge 14, 3) := by decide +kernel
theorem dX7_night_23 : decode cX7_night 23 = .ok (.aload_n 0, 1) := by decide +kernel
theorem dX7_night_24 : decode cX7_night 24 = .ok (.iload_n 1, 1) := by decide +kernel
theorem dX7_night_25 : decode cX7_night 25 = .ok (.invokevirtual 365, 3) := by decide +kernel
theorem dX7_night_28 : decode cX7_night 28 = .ok (.iinc 1 1, 3) := by decide +kernel
theorem dX7_night_31 : decode cX7_night 31 = .ok (.goto (-16), 3) := by decide +kernel
theorem dX7_night_34 : decode cX7_night 34 = .ok (.aload_n 0, 1) := by decide +kernel
theorem dX7_night_35 : decode cX7_night 35 = .ok (.dup, 1) := by decide +kernel
theorem dX7_night_36 : decode cX7_night 36 = .ok (.getfield 111, 3) := by decide +kernel
theorem dX7_night_39 : decode cX7_night 39 = .ok (.iconst 1, 1) := by decide +kernel
theorem dX7_night_40 : decode cX7_night 40 = .ok (.iadd, 1) := by decide +kernel
theorem dX7_night_41 : decode cX7_night 41 = .ok (.putfield 111, 3) := by decide +kernel
theorem dX7_night_44 : decode cX7_night 44 = .ok (.aload_n 0, 1) := by decide +kernel
theorem dX7_night_45 : decode cX7_night 45 = .ok (.invokevirtual 369, 3) := by decide +kernel
theorem dX7_night_48 : decode cX7_night 48 = .ok (.ireturn, 1) := by decide +kernel
theorem dX7_laysAside_0 : decode cX7_laysAside 0 = .ok (.iconst 0, 1) := by decide +kernel
theorem dX7_laysAside_1 : decode cX7_laysAside 1 = .ok (.istore_n 2, 1) := by decide +kernel
theorem dX7_laysAside_2 : decode cX7_laysAside 2 = .ok (.iload_n 2, 1) := by decide +kernel
theorem dX7_laysAside_3 : decode cX7_laysAside 3 = .ok (.bipush 10, 2) := by decide +kernel
theorem dX7_laysAside_5 : decode cX7_laysAside 5 = .ok (.if_icmp .ge 25, 3) := by decide +kernel
theorem dX7_laysAside_8 : decode cX7_laysAside 8 = .ok (.aload_n 0, 1) := by decide +kernel
theorem dX7_laysAside_9 : decode cX7_laysAside 9 = .ok (.getfield 35, 3) := by decide +kernel
theorem dX7_laysAside_12 : decode cX7_laysAside 12 = .ok (.iload_n 2, 1) := by decide +kernel
theorem dX7_laysAside_13 : decode cX7_laysAside 13 = .ok (.aload_n 0, 1) := by decide +kernel
theorem dX7_laysAside_14 : decode cX7_laysAside 14 = .ok (.getfield 32, 3) := by decide +kernel
theorem dX7_laysAside_17 : decode cX7_laysAside 17 = .ok (.iload_n 1, 1) := by decide +kernel
theorem dX7_laysAside_18 : decode cX7_laysAside 18 = .ok (.iload_n 2, 1) := by decide +kernel
theorem dX7_laysAside_19 : decode cX7_laysAside 19 = .ok (.invokestatic 114, 3) := by decide +kernel
theorem dX7_laysAside_22 : decode cX7_laysAside 22 = .ok (.iaload, 1) := by decide +kernel
theorem dX7_laysAside_23 : decode cX7_laysAside 23 = .ok (.iastore, 1) := by decide +kernel
theorem dX7_laysAside_24 : decode cX7_laysAside 24 = .ok (.iinc 2 1, 3) := by decide +kernel
theorem dX7_laysAside_27 : decode cX7_laysAside 27 = .ok (.goto (-25), 3) := by decide +kernel
theorem dX7_laysAside_30 : decode cX7_laysAside 30 = .ok (.aload_n 0, 1) := by decide +kernel
theorem dX7_laysAside_31 : decode cX7_laysAside 31 = .ok (.aload_n 0, 1) := by decide +kernel
theorem dX7_laysAside_32 : decode cX7_laysAside 32 = .ok (.getfield 111, 3) := by decide +kernel
theorem dX7_laysAside_35 : decode cX7_laysAside 35 = .ok (.putfield 372, 3) := by decide +kernel
theorem dX7_laysAside_38 : decode cX7_laysAside 38 = .ok (.return_, 1) := by decide +kernel
theorem dX7_laysBack_0 : decode cX7_laysBack 0 = .ok (.iconst 0, 1) := by decide +kernel
theorem dX7_laysBack_1 : decode cX7_laysBack 1 = .ok (.istore_n 2, 1) := by decide +kernel
theorem dX7_laysBack_2 : decode cX7_laysBack 2 = .ok (.iload_n 2, 1) := by decide +kernel
theorem dX7_laysBack_3 : decode cX7_laysBack 3 = .ok (.bipush 10, 2) := by decide +kernel
theorem dX7_laysBack_5 : decode cX7_laysBack 5 = .ok (.if_icmp .ge 25, 3) := by decide +kernel
theorem dX7_laysBack_8 : decode cX7_laysBack 8 = .ok (.aload_n 0, 1) := by decide +kernel
theorem dX7_laysBack_9 : decode cX7_laysBack 9 = .ok (.getfield 32, 3) := by decide +kernel
theorem dX7_laysBack_12 : decode cX7_laysBack 12 = .ok (.iload_n 1, 1) := by decide +kernel
theorem dX7_laysBack_13 : decode cX7_laysBack 13 = .ok (.iload_n 2, 1) := by decide +kernel
theorem dX7_laysBack_14 : decode cX7_laysBack 14 = .ok (.invokestatic 114, 3) := by decide +kernel
theorem dX7_laysBack_17 : decode cX7_laysBack 17 = .ok (.aload_n 0, 1) := by decide +kernel
theorem dX7_laysBack_18 : decode cX7_laysBack 18 = .ok (.getfield 35, 3) := by decide +kernel
theorem dX7_laysBack_21 : decode cX7_laysBack 21 = .ok (.iload_n 2, 1) := by decide +kernel
theorem dX7_laysBack_22 : decode cX7_laysBack 22 = .ok (.iaload, 1) := by decide +kernel
theorem dX7_laysBack_23 : decode cX7_laysBack 23 = .ok (.iastore, 1) := by decide +kernel
theorem dX7_laysBack_24 : decode cX7_laysBack 24 = .ok (.iinc 2 1, 3) := by decide +kernel
theorem dX7_laysBack_27 : decode cX7_laysBack 27 = .ok (.goto (-25), 3) := by decide +kernel
theorem dX7_laysBack_30 : decode cX7_laysBack 30 = .ok (.aload_n 0, 1) := by decide +kernel
theorem dX7_laysBack_31 : decode cX7_laysBack 31 = .ok (.aload_n 0, 1) := by decide +kernel
theorem dX7_laysBack_32 : decode cX7_laysBack 32 = .ok (.getfield 372, 3) := by decide +kernel
theorem dX7_laysBack_35 : decode cX7_laysBack 35 = .ok (.putfield 111, 3) := by decide +kernel
theorem dX7_laysBack_38 : decode cX7_laysBack 38 = .ok (.return_, 1) := by decide +kernel
theorem dX7_skillsOf_0 : decode cX7_skillsOf 0 = .ok (.iconst 0, 1) := by decide +kernel
theorem dX7_skillsOf_1 : decode cX7_skillsOf 1 = .ok (.istore_n 2, 1) := by decide +kernel
theorem dX7_skillsOf_2 : decode cX7_skillsOf 2 = .ok (.iconst 0, 1) := by decide +kernel
theorem dX7_skillsOf_3 : decode cX7_skillsOf 3 = .ok (.istore_n 3, 1) := by decide +kernel
theorem dX7_skillsOf_4 : decode cX7_skillsOf 4 = .ok (.iload_n 3, 1) := by decide +kernel
theorem dX7_skillsOf_5 : decode cX7_skillsOf 5 = .ok (.bipush 8, 2) := by decide +kernel
theorem dX7_skillsOf_7 : decode cX7_skillsOf 7 = .ok (.if_icmp .ge 22, 3) := by decide +kernel
theorem dX7_skillsOf_10 : decode cX7_skillsOf 10 = .ok (.iload_n 2, 1) := by decide +kernel
theorem dX7_skillsOf_11 : decode cX7_skillsOf 11 = .ok (.aload_n 0, 1) := by decide +kernel
theorem dX7_skillsOf_12 : decode cX7_skillsOf 12 = .ok (.getfield 32, 3) := by decide +kernel
theorem dX7_skillsOf_15 : decode cX7_skillsOf 15 = .ok (.iload_n 1, 1) := by decide +kernel
theorem dX7_skillsOf_16 : decode cX7_skillsOf 16 = .ok (.iload_n 3, 1) := by decide +kernel
theorem dX7_skillsOf_17 : decode cX7_skillsOf 17 = .ok (.invokestatic 114, 3) := by decide +kernel
theorem dX7_skillsOf_20 : decode cX7_skillsOf 20 = .ok (.iaload, 1) := by decide +kernel
theorem dX7_skillsOf_21 : decode cX7_skillsOf 21 = .ok (.iadd, 1) := by decide +kernel
theorem dX7_skillsOf_22 : decode cX7_skillsOf 22 = .ok (.istore_n 2, 1) := by decide +kernel
theorem dX7_skillsOf_23 : decode cX7_skillsOf 23 = .ok (.iinc 3 1, 3) := by decide +kernel
theorem dX7_skillsOf_26 : decode cX7_skillsOf 26 = .ok (.goto (-22), 3) := by decide +kernel
theorem dX7_skillsOf_29 : decode cX7_skillsOf 29 = .ok (.iload_n 2, 1) := by decide +kernel
theorem dX7_skillsOf_30 : decode cX7_skillsOf 30 = .ok (.ireturn, 1) := by decide +kernel
theorem dX7_best_0 : decode cX7_best 0 = .ok (.aload_n 0, 1) := by decide +kernel
theorem dX7_best_1 : decode cX7_best 1 = .ok (.iload_n 1, 1) := by decide +kernel
theorem dX7_best_2 : decode cX7_best 2 = .ok (.invokevirtual 86, 3) := by decide +kernel
theorem dX7_best_5 : decode cX7_best 5 = .ok (.ifCond .eq 13, 3) := by decide +kernel
theorem dX7_best_8 : decode cX7_best 8 = .ok (.iload_n 2, 1) := by decide +kernel
theorem dX7_best_9 : decode cX7_best 9 = .ok (.i2l, 1) := by decide +kernel
theorem dX7_best_10 : decode cX7_best 10 = .ok (.lconst 0, 1) := by decide +kernel
theorem dX7_best_11 : decode cX7_best 11 = .ok (.lconst 1, 1) := by decide +kernel
theorem dX7_best_12 : decode cX7_best 12 = .ok (.invokestatic 76, 3) := by decide +kernel
theorem dX7_best_15 : decode cX7_best 15 = .ok (.ifCond .ne 6, 3) := by decide +kernel
theorem dX7_best_18 : decode cX7_best 18 = .ok (.bipush (-2), 2) := by decide +kernel
theorem dX7_best_20 : decode cX7_best 20 = .ok (.ireturn, 1) := by decide +kernel
theorem dX7_best_21 : decode cX7_best 21 = .ok (.iconst (-1), 1) := by decide +kernel
theorem dX7_best_22 : decode cX7_best 22 = .ok (.istore_n 3, 1) := by decide +kernel
theorem dX7_best_23 : decode cX7_best 23 = .ok (.iconst (-1), 1) := by decide +kernel
theorem dX7_best_24 : decode cX7_best 24 = .ok (.istore 4, 2) := by decide +kernel
theorem dX7_best_26 : decode cX7_best 26 = .ok (.aload_n 0, 1) := by decide +kernel
theorem dX7_best_27 : decode cX7_best 27 = .ok (.iload_n 1, 1) := by decide +kernel
theorem dX7_best_28 : decode cX7_best 28 = .ok (.invokevirtual 375, 3) := by decide +kernel
theorem dX7_best_31 : decode cX7_best 31 = .ok (.iconst 0, 1) := by decide +kernel
theorem dX7_best_32 : decode cX7_best 32 = .ok (.istore 5, 2) := by decide +kernel
theorem dX7_best_34 : decode cX7_best 34 = .ok (.iload 5, 2) := by decide +kernel
theorem dX7_best_36 : decode cX7_best 36 = .ok (.bipush 24, 2) := by decide +kernel
theorem dX7_best_38 : decode cX7_best 38 = .ok (.if_icmp .ge 58, 3) := by decide +kernel
theorem dX7_best_41 : decode cX7_best 41 = .ok (.aload_n 0, 1) := by decide +kernel
theorem dX7_best_42 : decode cX7_best 42 = .ok (.iload_n 1, 1) := by decide +kernel
theorem dX7_best_43 : decode cX7_best 43 = .ok (.iload 5, 2) := by decide +kernel
theorem dX7_best_45 : decode cX7_best 45 = .ok (.iconst 3, 1) := by decide +kernel
theorem dX7_best_46 : decode cX7_best 46 = .ok (.idiv, 1) := by decide +kernel
theorem dX7_best_47 : decode cX7_best 47 = .ok (.iload 5, 2) := by decide +kernel
theorem dX7_best_49 : decode cX7_best 49 = .ok (.iconst 3, 1) := by decide +kernel
theorem dX7_best_50 : decode cX7_best 50 = .ok (.irem, 1) := by decide +kernel
theorem dX7_best_51 : decode cX7_best 51 = .ok (.invokevirtual 362, 3) := by decide +kernel
theorem dX7_best_54 : decode cX7_best 54 = .ok (.aload_n 0, 1) := by decide +kernel
theorem dX7_best_55 : decode cX7_best 55 = .ok (.iload_n 1, 1) := by decide +kernel
theorem dX7_best_56 : decode cX7_best 56 = .ok (.invokevirtual 378, 3) := by decide +kernel
theorem dX7_best_59 : decode cX7_best 59 = .ok (.istore 6, 2) := by decide +kernel
theorem dX7_best_61 : decode cX7_best 61 = .ok (.aload_n 0, 1) := by decide +kernel
theorem dX7_best_62 : decode cX7_best 62 = .ok (.iload_n 1, 1) := by decide +kernel
theorem dX7_best_63 : decode cX7_best 63 = .ok (.invokevirtual 381, 3) := by decide +kernel
theorem dX7_best_66 : decode cX7_best 66 = .ok (.iload 6, 2) := by decide +kernel
theorem dX7_best_68 : decode cX7_best 68 = .ok (.iload 4, 2) := by decide +kernel
theorem dX7_best_70 : decode cX7_best 70 = .ok (.if_icmp .le 20, 3) := by decide +kernel
theorem dX7_best_73 : decode cX7_best 73 = .ok (.bipush 10, 2) := by decide +kernel
theorem dX7_best_75 : decode cX7_best 75 = .ok (.iload 5, 2) := by decide +kernel
theorem dX7_best_77 : decode cX7_best 77 = .ok (.iconst 3, 1) := by decide +kernel
theorem dX7_best_78 : decode cX7_best 78 = .ok (.idiv, 1) := by decide +kernel
theorem dX7_best_79 : decode cX7_best 79 = .ok (.imul, 1) := by decide +kernel
theorem dX7_best_80 : decode cX7_best 80 = .ok (.iload 5, 2) := by decide +kernel
theorem dX7_best_82 : decode cX7_best 82 = .ok (.iconst 3, 1) := by decide +kernel
theorem dX7_best_83 : decode cX7_best 83 = .ok (.irem, 1) := by decide +kernel
theorem dX7_best_84 : decode cX7_best 84 = .ok (.iadd, 1) := by decide +kernel
theorem dX7_best_85 : decode cX7_best 85 = .ok (.istore_n 3, 1) := by decide +kernel
theorem dX7_best_86 : decode cX7_best 86 = .ok (.iload 6, 2) := by decide +kernel
theorem dX7_best_88 : decode cX7_best 88 = .ok (.istore 4, 2) := by decide +kernel
theorem dX7_best_90 : decode cX7_best 90 = .ok (.iinc 5 1, 3) := by decide +kernel
theorem dX7_best_93 : decode cX7_best 93 = .ok (.goto (-59), 3) := by decide +kernel
theorem dX7_best_96 : decode cX7_best 96 = .ok (.iload_n 2, 1) := by decide +kernel
theorem dX7_best_97 : decode cX7_best 97 = .ok (.ifCond .ne 7, 3) := by decide +kernel
theorem dX7_best_100 : decode cX7_best 100 = .ok (.iload_n 3, 1) := by decide +kernel
theorem dX7_best_101 : decode cX7_best 101 = .ok (.goto 5, 3) := by decide +kernel
theorem dX7_best_104 : decode cX7_best 104 = .ok (.iload 4, 2) := by decide +kernel
theorem dX7_best_106 : decode cX7_best 106 = .ok (.ireturn, 1) := by decide +kernel
section SIM
variable {p : Program} {l : Launch} {e : Env} {R : Room} {s : State} {m : MethodId} {args : Array Value} {below : List Frame} {meth : Method} {c : Code} {D : va_G} {cA : Nat → ClassId} {ad : Nat → Nat} {bs n0 z0 d : Nat} {H0 : Heap} {rv : Option Value} {hf : aM} {E : Nat → List Value → aM → Option Value → aM → Prop} {X : aXt × Value}

set_option maxHeartbeats 4000000 in
set_option maxRecDepth 20000 in
theorem sm_X7_read (hC : aC p s m args c cX7_read 6 RX7 D cA ad bs n0 H0 X) (hF : ∀ ml, ml ≤ 41 → aFit R d ml) (hRm : 16 ≤ R.frames ∧ 1000 ≤ R.locals) (hE : aCalls l D cA ad bs X d E) (hr : meth.sig.returnType = (some .int)) (hlk : meth.locks = false) : aSims (fun f i => aSim p l e R s m args below meth c (aEnd below s args D cA ad bs n0 z0 rv hf) 6 D cA ad bs n0 z0 H0 (apc pc_X7_read) rv hf E f i) (cd_X7_read) 0 := by
  unfold cd_X7_read
  refine aSims_c (i := 0) (s_aload_n hC dX7_read_0 rfl rfl) ?_
  refine aSims_c (i := 1) (s_sipush hC dX7_read_1 rfl rfl rfl) ?_
  refine aSims_c (i := 2) (s_iload_n hC dX7_read_4 rfl rfl) ?_
  refine aSims_c (i := 3) (s_imul hC dX7_read_5 rfl rfl) ?_
  refine aSims_c (i := 4) (s_put hC dX7_read_6 rfl rfl w_861 rfl rfl inB7 tyX7_ok nmX7 (by decide) rfl) ?_
  refine aSims_c (i := 5) (s_aload_n hC dX7_read_9 rfl rfl) ?_
  refine aSims_c (i := 6) (s_aload_n hC dX7_read_10 rfl rfl) ?_
  refine aSims_c (i := 7) (s_get hC dX7_read_11 rfl rfl w_844 rfl rfl inB7 (by decide)) ?_
  refine aSims_c (i := 8) (s_iload_n hC dX7_read_14 rfl rfl) ?_
  refine aSims_c (i := 9) (s_iaload hC hX0 dX7_read_15 rfl rfl) ?_
  refine aSims_c (i := 10) (s_put hC dX7_read_16 rfl rfl w_862 rfl rfl inB7 tyX7_ok nmX7 (by decide) rfl) ?_
  refine aSims_c (i := 11) (s_aload_n hC dX7_read_19 rfl rfl) ?_
  refine aSims_c (i := 12) (s_iconst hC dX7_read_20 rfl rfl rfl) ?_
  refine aSims_c (i := 13) (s_put hC dX7_read_21 rfl rfl w_863 rfl rfl inB7 tyX7_ok nmX7 (by decide) rfl) ?_
  refine aSims_c (i := 14) (s_aload_n hC dX7_read_24 rfl rfl) ?_
  refine aSims_c (i := 15) (s_iconst hC dX7_read_25 rfl rfl rfl) ?_
  refine aSims_c (i := 16) (s_put hC dX7_read_26 rfl rfl w_867 rfl rfl inB7 tyX7_ok nmX7 (by decide) rfl) ?_
  refine aSims_c (i := 17) (s_aload_n hC dX7_read_29 rfl rfl) ?_
  refine aSims_c (i := 18) (s_iconst hC dX7_read_30 rfl rfl rfl) ?_
  refine aSims_c (i := 19) (s_put hC dX7_read_31 rfl rfl w_868 rfl rfl inB7 tyX7_ok nmX7 (by decide) rfl) ?_
  refine aSims_c (i := 20) (s_aload_n hC dX7_read_34 rfl rfl) ?_
  refine aSims_c (i := 21) (s_callV (n := 0) hC dX7_read_35 rfl rfl (hE 126 _ _ _ _ rfl) (hF _ (by decide)) w_1024 w_1021 w_1023 w_36 w_109 rfl (by decide +kernel)) ?_
  refine aSims_c (i := 22) (s_aload_n hC dX7_read_38 rfl rfl) ?_
  refine aSims_c (i := 23) (s_aload_n hC dX7_read_39 rfl rfl) ?_
  refine aSims_c (i := 24) (s_bipush hC dX7_read_40 rfl rfl rfl) ?_
  refine aSims_c (i := 25) (s_bipush hC dX7_read_42 rfl rfl rfl) ?_
  refine aSims_c (i := 26) (s_bipush hC dX7_read_44 rfl rfl rfl) ?_
  refine aSims_c (i := 27) (s_bipush hC dX7_read_46 rfl rfl rfl) ?_
  refine aSims_c (i := 28) (s_bipush hC dX7_read_48 rfl rfl rfl) ?_
  refine aSims_c (i := 29) (s_bipush hC dX7_read_50 rfl rfl rfl) ?_
  refine aSims_c (i := 30) (s_bipush hC dX7_read_52 rfl rfl rfl) ?_
  refine aSims_c (i := 31) (s_iconst hC dX7_read_54 rfl rfl rfl) ?_
  refine aSims_c (i := 32) (s_callV (n := 8) hC dX7_read_55 rfl rfl (hE 129 _ _ _ _ rfl) (hF _ (by decide)) w_1036 w_1033 w_1035 w_38 w_109 rfl (by decide +kernel)) ?_
  refine aSims_c (i := 33) (s_callV (n := 1) hC dX7_read_58 rfl rfl (hE 169 _ _ _ _ rfl) (hF _ (by decide)) w_1044 w_1041 w_1043 w_40 w_109 rfl (by decide +kernel)) ?_
  refine aSims_c (i := 34) (s_istore_n hC dX7_read_61 rfl rfl) ?_
  refine aSims_c (i := 35) (s_aload_n hC dX7_read_62 rfl rfl) ?_
  refine aSims_c (i := 36) (s_get hC dX7_read_63 rfl rfl w_868 rfl rfl inB7 (by decide)) ?_
  refine aSims_c (i := 37) (s_if_eq hC dX7_read_66 rfl rfl rfl) ?_
  refine aSims_c (i := 38) (s_iconst hC dX7_read_69 rfl rfl rfl) ?_
  refine aSims_c (i := 39) (s_goto hC dX7_read_70 rfl rfl) ?_
  refine aSims_c (i := 40) (s_aload_n hC dX7_read_73 rfl rfl) ?_
  refine aSims_c (i := 41) (s_aload_n hC dX7_read_74 rfl rfl) ?_
  refine aSims_c (i := 42) (s_bipush hC dX7_read_75 rfl rfl rfl) ?_
  refine aSims_c (i := 43) (s_bipush hC dX7_read_77 rfl rfl rfl) ?_
  refine aSims_c (i := 44) (s_bipush hC dX7_read_79 rfl rfl rfl) ?_
  refine aSims_c (i := 45) (s_bipush hC dX7_read_81 rfl rfl rfl) ?_
  refine aSims_c (i := 46) (s_bipush hC dX7_read_83 rfl rfl rfl) ?_
  refine aSims_c (i := 47) (s_iconst hC dX7_read_85 rfl rfl rfl) ?_
  refine aSims_c (i := 48) (s_iconst hC dX7_read_86 rfl rfl rfl) ?_
  refine aSims_c (i := 49) (s_iconst hC dX7_read_87 rfl rfl rfl) ?_
  refine aSims_c (i := 50) (s_callV (n := 8) hC dX7_read_88 rfl rfl (hE 129 _ _ _ _ rfl) (hF _ (by decide)) w_1036 w_1033 w_1035 w_38 w_109 rfl (by decide +kernel)) ?_
  refine aSims_c (i := 51) (s_callV (n := 1) hC dX7_read_91 rfl rfl (hE 169 _ _ _ _ rfl) (hF _ (by decide)) w_1044 w_1041 w_1043 w_40 w_109 rfl (by decide +kernel)) ?_
  refine aSims_c (i := 52) (s_istore hC dX7_read_94 rfl rfl) ?_
  refine aSims_c (i := 53) (s_aload_n hC dX7_read_96 rfl rfl) ?_
  refine aSims_c (i := 54) (s_get hC dX7_read_97 rfl rfl w_868 rfl rfl inB7 (by decide)) ?_
  refine aSims_c (i := 55) (s_if_eq hC dX7_read_100 rfl rfl rfl) ?_
  refine aSims_c (i := 56) (s_iconst hC dX7_read_103 rfl rfl rfl) ?_
  refine aSims_c (i := 57) (s_goto hC dX7_read_104 rfl rfl) ?_
  refine aSims_c (i := 58) (s_aload_n hC dX7_read_107 rfl rfl) ?_
  refine aSims_c (i := 59) (s_aload_n hC dX7_read_108 rfl rfl) ?_
  refine aSims_c (i := 60) (s_bipush hC dX7_read_109 rfl rfl rfl) ?_
  refine aSims_c (i := 61) (s_bipush hC dX7_read_111 rfl rfl rfl) ?_
  refine aSims_c (i := 62) (s_bipush hC dX7_read_113 rfl rfl rfl) ?_
  refine aSims_c (i := 63) (s_bipush hC dX7_read_115 rfl rfl rfl) ?_
  refine aSims_c (i := 64) (s_bipush hC dX7_read_117 rfl rfl rfl) ?_
  refine aSims_c (i := 65) (s_bipush hC dX7_read_119 rfl rfl rfl) ?_
  refine aSims_c (i := 66) (s_iconst hC dX7_read_121 rfl rfl rfl) ?_
  refine aSims_c (i := 67) (s_iconst hC dX7_read_122 rfl rfl rfl) ?_
  refine aSims_c (i := 68) (s_callV (n := 8) hC dX7_read_123 rfl rfl (hE 129 _ _ _ _ rfl) (hF _ (by decide)) w_1036 w_1033 w_1035 w_38 w_109 rfl (by decide +kernel)) ?_
  refine aSims_c (i := 69) (s_callV (n := 1) hC dX7_read_126 rfl rfl (hE 169 _ _ _ _ rfl) (hF _ (by decide)) w_1044 w_1041 w_1043 w_40 w_109 rfl (by decide +kernel)) ?_
  refine aSims_c (i := 70) (s_istore hC dX7_read_129 rfl rfl) ?_
  refine aSims_c (i := 71) (s_aload_n hC dX7_read_131 rfl rfl) ?_
  refine aSims_c (i := 72) (s_get hC dX7_read_132 rfl rfl w_868 rfl rfl inB7 (by decide)) ?_
  refine aSims_c (i := 73) (s_if_ne hC dX7_read_135 rfl rfl rfl) ?_
  refine aSims_c (i := 74) (s_aload_n hC dX7_read_138 rfl rfl) ?_
  refine aSims_c (i := 75) (s_get hC dX7_read_139 rfl rfl w_864 rfl rfl inB7 (by decide)) ?_
  refine aSims_c (i := 76) (s_if_eq hC dX7_read_142 rfl rfl rfl) ?_
  refine aSims_c (i := 77) (s_aload_n hC dX7_read_145 rfl rfl) ?_
  refine aSims_c (i := 78) (s_callV (n := 0) hC dX7_read_146 rfl rfl (hE 127 _ _ _ _ rfl) (hF _ (by decide)) w_1048 w_1045 w_1047 w_41 w_109 rfl (by decide +kernel)) ?_
  refine aSims_c (i := 79) (s_iload_n hC dX7_read_149 rfl rfl) ?_
  refine aSims_c (i := 80) (s_if_ne hC dX7_read_150 rfl rfl rfl) ?_
  refine aSims_c (i := 81) (s_iload_n hC dX7_read_153 rfl rfl) ?_
  refine aSims_c (i := 82) (s_goto hC dX7_read_154 rfl rfl) ?_
  refine aSims_c (i := 83) (s_iload_n hC dX7_read_157 rfl rfl) ?_
  refine aSims_c (i := 84) (s_iconst hC dX7_read_158 rfl rfl rfl) ?_
  refine aSims_c (i := 85) (s_icmp_ne hC dX7_read_159 rfl rfl rfl) ?_
  refine aSims_c (i := 86) (s_iload hC dX7_read_162 rfl rfl) ?_
  refine aSims_c (i := 87) (s_goto hC dX7_read_164 rfl rfl) ?_
  refine aSims_c (i := 88) (s_iload hC dX7_read_167 rfl rfl) ?_
  refine aSims_c (i := 89) (s_iret hC dX7_read_169 rfl hr hlk nar_qI) ?_
  exact aSims_n
set_option maxHeartbeats 4000000 in
set_option maxRecDepth 20000 in
theorem sm_X7_text (hC : aC p s m args c cX7_text 2 RX7 D cA ad bs n0 H0 X) (hF : ∀ ml, ml ≤ 41 → aFit R d ml) (hRm : 16 ≤ R.frames ∧ 1000 ≤ R.locals) (hE : aCalls l D cA ad bs X d E) (hr : meth.sig.returnType = (some .int)) (hlk : meth.locks = false) : aSims (fun f i => aSim p l e R s m args below meth c (aEnd below s args D cA ad bs n0 z0 rv hf) 2 D cA ad bs n0 z0 H0 (apc pc_X7_text) rv hf E f i) (cd_X7_text) 0 := by
  unfold cd_X7_text
  refine aSims_c (i := 0) (s_aload_n hC dX7_text_0 rfl rfl) ?_
  refine aSims_c (i := 1) (s_get hC dX7_text_1 rfl rfl w_845 rfl rfl inB7 (by decide)) ?_
  refine aSims_c (i := 2) (s_bipush hC dX7_text_4 rfl rfl rfl) ?_
  refine aSims_c (i := 3) (s_icmp_ne hC dX7_text_6 rfl rfl rfl) ?_
  refine aSims_c (i := 4) (s_bipush hC dX7_text_9 rfl rfl rfl) ?_
  refine aSims_c (i := 5) (s_iret hC dX7_text_11 rfl hr hlk nar_qI) ?_
  refine aSims_c (i := 6) (s_iconst hC dX7_text_12 rfl rfl rfl) ?_
  refine aSims_c (i := 7) (s_istore_n hC dX7_text_13 rfl rfl) ?_
  refine aSims_c (i := 8) (s_iload_n hC dX7_text_14 rfl rfl) ?_
  refine aSims_c (i := 9) (s_aload_n hC dX7_text_15 rfl rfl) ?_
  refine aSims_c (i := 10) (s_get hC dX7_text_16 rfl rfl w_848 rfl rfl inB7 (by decide)) ?_
  refine aSims_c (i := 11) (s_icmp_ge hC dX7_text_19 rfl rfl rfl) ?_
  refine aSims_c (i := 12) (s_aload_n hC dX7_text_22 rfl rfl) ?_
  refine aSims_c (i := 13) (s_get hC dX7_text_23 rfl rfl w_843 rfl rfl inB7 (by decide)) ?_
  refine aSims_c (i := 14) (s_sipush hC dX7_text_26 rfl rfl rfl) ?_
  refine aSims_c (i := 15) (s_aload_n hC dX7_text_29 rfl rfl) ?_
  refine aSims_c (i := 16) (s_get hC dX7_text_30 rfl rfl w_845 rfl rfl inB7 (by decide)) ?_
  refine aSims_c (i := 17) (s_imul hC dX7_text_33 rfl rfl) ?_
  refine aSims_c (i := 18) (s_iload_n hC dX7_text_34 rfl rfl) ?_
  refine aSims_c (i := 19) (s_iadd hC dX7_text_35 rfl rfl) ?_
  refine aSims_c (i := 20) (s_aload_n hC dX7_text_36 rfl rfl) ?_
  refine aSims_c (i := 21) (s_get hC dX7_text_37 rfl rfl w_847 rfl rfl inB7 (by decide)) ?_
  refine aSims_c (i := 22) (s_iload_n hC dX7_text_40 rfl rfl) ?_
  refine aSims_c (i := 23) (s_iaload hC hX0 dX7_text_41 rfl rfl) ?_
  refine aSims_c (i := 24) (s_iastore hC dX7_text_42 rfl rfl) ?_
  refine aSims_c (i := 25) (s_iinc hC dX7_text_43 rfl rfl) ?_
  refine aSims_c (i := 26) (s_goto hC dX7_text_46 rfl rfl) ?_
  refine aSims_c (i := 27) (s_aload_n hC dX7_text_49 rfl rfl) ?_
  refine aSims_c (i := 28) (s_get hC dX7_text_50 rfl rfl w_844 rfl rfl inB7 (by decide)) ?_
  refine aSims_c (i := 29) (s_aload_n hC dX7_text_53 rfl rfl) ?_
  refine aSims_c (i := 30) (s_get hC dX7_text_54 rfl rfl w_845 rfl rfl inB7 (by decide)) ?_
  refine aSims_c (i := 31) (s_aload_n hC dX7_text_57 rfl rfl) ?_
  refine aSims_c (i := 32) (s_get hC dX7_text_58 rfl rfl w_848 rfl rfl inB7 (by decide)) ?_
  refine aSims_c (i := 33) (s_iastore hC dX7_text_61 rfl rfl) ?_
  refine aSims_c (i := 34) (s_aload_n hC dX7_text_62 rfl rfl) ?_
  refine aSims_c (i := 35) (s_iconst hC dX7_text_63 rfl rfl rfl) ?_
  refine aSims_c (i := 36) (s_put hC dX7_text_64 rfl rfl w_848 rfl rfl inB7 tyX7_ok nmX7 (by decide) rfl) ?_
  refine aSims_c (i := 37) (s_aload_n hC dX7_text_67 rfl rfl) ?_
  refine aSims_c (i := 38) (s_aload_n hC dX7_text_68 rfl rfl) ?_
  refine aSims_c (i := 39) (s_get hC dX7_text_69 rfl rfl w_845 rfl rfl inB7 (by decide)) ?_
  refine aSims_c (i := 40) (s_iconst hC dX7_text_72 rfl rfl rfl) ?_
  refine aSims_c (i := 41) (s_callV (n := 2) hC dX7_text_73 rfl rfl (hE 170 _ _ _ _ rfl) (hF _ (by decide)) w_1020 w_1017 w_1019 w_35 w_109 rfl (by decide +kernel)) ?_
  refine aSims_c (i := 42) (s_istore_n hC dX7_text_76 rfl rfl) ?_
  refine aSims_c (i := 43) (s_aload_n hC dX7_text_77 rfl rfl) ?_
  refine aSims_c (i := 44) (s_get hC dX7_text_78 rfl rfl w_868 rfl rfl inB7 (by decide)) ?_
  refine aSims_c (i := 45) (s_if_eq hC dX7_text_81 rfl rfl rfl) ?_
  refine aSims_c (i := 46) (s_bipush hC dX7_text_84 rfl rfl rfl) ?_
  refine aSims_c (i := 47) (s_aload_n hC dX7_text_86 rfl rfl) ?_
  refine aSims_c (i := 48) (s_get hC dX7_text_87 rfl rfl w_869 rfl rfl inB7 (by decide)) ?_
  refine aSims_c (i := 49) (s_isub hC dX7_text_90 rfl rfl) ?_
  refine aSims_c (i := 50) (s_iret hC dX7_text_91 rfl hr hlk nar_qI) ?_
  refine aSims_c (i := 51) (s_aload_n hC dX7_text_92 rfl rfl) ?_
  refine aSims_c (i := 52) (s_dup hC dX7_text_93 rfl rfl) ?_
  refine aSims_c (i := 53) (s_get hC dX7_text_94 rfl rfl w_845 rfl rfl inB7 (by decide)) ?_
  refine aSims_c (i := 54) (s_iconst hC dX7_text_97 rfl rfl rfl) ?_
  refine aSims_c (i := 55) (s_iadd hC dX7_text_98 rfl rfl) ?_
  refine aSims_c (i := 56) (s_put hC dX7_text_99 rfl rfl w_845 rfl rfl inB7 tyX7_ok nmX7 (by decide) rfl) ?_
  refine aSims_c (i := 57) (s_aload_n hC dX7_text_102 rfl rfl) ?_
  refine aSims_c (i := 58) (s_get hC dX7_text_103 rfl rfl w_845 rfl rfl inB7 (by decide)) ?_
  refine aSims_c (i := 59) (s_iconst hC dX7_text_106 rfl rfl rfl) ?_
  refine aSims_c (i := 60) (s_isub hC dX7_text_107 rfl rfl) ?_
  refine aSims_c (i := 61) (s_iret hC dX7_text_108 rfl hr hlk nar_qI) ?_
  exact aSims_n
set_option maxHeartbeats 4000000 in
set_option maxRecDepth 20000 in
theorem sm_X7_force (hC : aC p s m args c cX7_force 3 RX7 D cA ad bs n0 H0 X) (hF : ∀ ml, ml ≤ 41 → aFit R d ml) (hRm : 16 ≤ R.frames ∧ 1000 ≤ R.locals) (hE : aCalls l D cA ad bs X d E) (hr : meth.sig.returnType = (some .int)) (hlk : meth.locks = false) : aSims (fun f i => aSim p l e R s m args below meth c (aEnd below s args D cA ad bs n0 z0 rv hf) 3 D cA ad bs n0 z0 H0 (apc pc_X7_force) rv hf E f i) (cd_X7_force) 0 := by
  unfold cd_X7_force
  refine aSims_c (i := 0) (s_iload_n hC dX7_force_0 rfl rfl) ?_
  refine aSims_c (i := 1) (s_i2l hC dX7_force_1 rfl rfl) ?_
  refine aSims_c (i := 2) (s_lconst hC dX7_force_2 rfl rfl rfl) ?_
  refine aSims_c (i := 3) (s_aload_n hC dX7_force_3 rfl rfl) ?_
  refine aSims_c (i := 4) (s_get hC dX7_force_4 rfl rfl w_845 rfl rfl inB7 (by decide)) ?_
  refine aSims_c (i := 5) (s_iconst hC dX7_force_7 rfl rfl rfl) ?_
  refine aSims_c (i := 6) (s_isub hC dX7_force_8 rfl rfl) ?_
  refine aSims_c (i := 7) (s_i2l hC dX7_force_9 rfl rfl) ?_
  refine aSims_c (i := 8) (s_callS hC dX7_force_10 rfl rfl (hE 111 _ _ _ _ rfl) (hF _ (by decide)) w_974 w_972 w_973 w_109 (by decide +kernel)) ?_
  refine aSims_c (i := 9) (s_if_ne hC dX7_force_13 rfl rfl rfl) ?_
  refine aSims_c (i := 10) (s_bipush hC dX7_force_16 rfl rfl rfl) ?_
  refine aSims_c (i := 11) (s_iret hC dX7_force_18 rfl hr hlk nar_qI) ?_
  refine aSims_c (i := 12) (s_aload_n hC dX7_force_19 rfl rfl) ?_
  refine aSims_c (i := 13) (s_get hC dX7_force_20 rfl rfl w_846 rfl rfl inB7 (by decide)) ?_
  refine aSims_c (i := 14) (s_istore_n hC dX7_force_23 rfl rfl) ?_
  refine aSims_c (i := 15) (s_aload_n hC dX7_force_24 rfl rfl) ?_
  refine aSims_c (i := 16) (s_iload_n hC dX7_force_25 rfl rfl) ?_
  refine aSims_c (i := 17) (s_put hC dX7_force_26 rfl rfl w_846 rfl rfl inB7 tyX7_ok nmX7 (by decide) rfl) ?_
  refine aSims_c (i := 18) (s_iload_n hC dX7_force_29 rfl rfl) ?_
  refine aSims_c (i := 19) (s_iret hC dX7_force_30 rfl hr hlk nar_qI) ?_
  exact aSims_n
set_option maxHeartbeats 4000000 in
set_option maxRecDepth 20000 in
theorem sm_X7_says (hC : aC p s m args c cX7_says 6 RX7 D cA ad bs n0 H0 X) (hF : ∀ ml, ml ≤ 41 → aFit R d ml) (hRm : 16 ≤ R.frames ∧ 1000 ≤ R.locals) (hE : aCalls l D cA ad bs X d E) (hr : meth.sig.returnType = (some .int)) (hlk : meth.locks = false) : aSims (fun f i => aSim p l e R s m args below meth c (aEnd below s args D cA ad bs n0 z0 rv hf) 6 D cA ad bs n0 z0 H0 (apc pc_X7_says) rv hf E f i) (cd_X7_says) 0 := by
  unfold cd_X7_says
  refine aSims_c (i := 0) (s_aload_n hC dX7_says_0 rfl rfl) ?_
  refine aSims_c (i := 1) (s_aload_n hC dX7_says_1 rfl rfl) ?_
  refine aSims_c (i := 2) (s_get hC dX7_says_2 rfl rfl w_853 rfl rfl inB7 (by decide)) ?_
  refine aSims_c (i := 3) (s_iload_n hC dX7_says_5 rfl rfl) ?_
  refine aSims_c (i := 4) (s_iload_n hC dX7_says_6 rfl rfl) ?_
  refine aSims_c (i := 5) (s_callS hC dX7_says_7 rfl rfl (hE 117 _ _ _ _ rfl) (hF _ (by decide)) w_1000 w_998 w_999 w_109 (by decide +kernel)) ?_
  refine aSims_c (i := 6) (s_iaload hC hX0 dX7_says_10 rfl rfl) ?_
  refine aSims_c (i := 7) (s_put hC dX7_says_11 rfl rfl w_855 rfl rfl inB7 tyX7_ok nmX7 (by decide) rfl) ?_
  refine aSims_c (i := 8) (s_aload_n hC dX7_says_14 rfl rfl) ?_
  refine aSims_c (i := 9) (s_aload_n hC dX7_says_15 rfl rfl) ?_
  refine aSims_c (i := 10) (s_get hC dX7_says_16 rfl rfl w_850 rfl rfl inB7 (by decide)) ?_
  refine aSims_c (i := 11) (s_iload_n hC dX7_says_19 rfl rfl) ?_
  refine aSims_c (i := 12) (s_iaload hC hX0 dX7_says_20 rfl rfl) ?_
  refine aSims_c (i := 13) (s_put hC dX7_says_21 rfl rfl w_856 rfl rfl inB7 tyX7_ok nmX7 (by decide) rfl) ?_
  refine aSims_c (i := 14) (s_aload_n hC dX7_says_24 rfl rfl) ?_
  refine aSims_c (i := 15) (s_iload hC dX7_says_25 rfl rfl) ?_
  refine aSims_c (i := 16) (s_put hC dX7_says_27 rfl rfl w_857 rfl rfl inB7 tyX7_ok nmX7 (by decide) rfl) ?_
  refine aSims_c (i := 17) (s_aload_n hC dX7_says_30 rfl rfl) ?_
  refine aSims_c (i := 18) (s_aload_n hC dX7_says_31 rfl rfl) ?_
  refine aSims_c (i := 19) (s_get hC dX7_says_32 rfl rfl w_852 rfl rfl inB7 (by decide)) ?_
  refine aSims_c (i := 20) (s_iload_n hC dX7_says_35 rfl rfl) ?_
  refine aSims_c (i := 21) (s_iaload hC hX0 dX7_says_36 rfl rfl) ?_
  refine aSims_c (i := 22) (s_put hC dX7_says_37 rfl rfl w_858 rfl rfl inB7 tyX7_ok nmX7 (by decide) rfl) ?_
  refine aSims_c (i := 23) (s_aload_n hC dX7_says_40 rfl rfl) ?_
  refine aSims_c (i := 24) (s_aload_n hC dX7_says_41 rfl rfl) ?_
  refine aSims_c (i := 25) (s_get hC dX7_says_42 rfl rfl w_849 rfl rfl inB7 (by decide)) ?_
  refine aSims_c (i := 26) (s_put hC dX7_says_45 rfl rfl w_859 rfl rfl inB7 tyX7_ok nmX7 (by decide) rfl) ?_
  refine aSims_c (i := 27) (s_aload_n hC dX7_says_48 rfl rfl) ?_
  refine aSims_c (i := 28) (s_aload_n hC dX7_says_49 rfl rfl) ?_
  refine aSims_c (i := 29) (s_get hC dX7_says_50 rfl rfl w_853 rfl rfl inB7 (by decide)) ?_
  refine aSims_c (i := 30) (s_iload_n hC dX7_says_53 rfl rfl) ?_
  refine aSims_c (i := 31) (s_bipush hC dX7_says_54 rfl rfl rfl) ?_
  refine aSims_c (i := 32) (s_callS hC dX7_says_56 rfl rfl (hE 117 _ _ _ _ rfl) (hF _ (by decide)) w_1000 w_998 w_999 w_109 (by decide +kernel)) ?_
  refine aSims_c (i := 33) (s_iaload hC hX0 dX7_says_59 rfl rfl) ?_
  refine aSims_c (i := 34) (s_put hC dX7_says_60 rfl rfl w_860 rfl rfl inB7 tyX7_ok nmX7 (by decide) rfl) ?_
  refine aSims_c (i := 35) (s_aload_n hC dX7_says_63 rfl rfl) ?_
  refine aSims_c (i := 36) (s_aload_n hC dX7_says_64 rfl rfl) ?_
  refine aSims_c (i := 37) (s_get hC dX7_says_65 rfl rfl w_846 rfl rfl inB7 (by decide)) ?_
  refine aSims_c (i := 38) (s_iload_n hC dX7_says_68 rfl rfl) ?_
  refine aSims_c (i := 39) (s_callV (n := 2) hC dX7_says_69 rfl rfl (hE 170 _ _ _ _ rfl) (hF _ (by decide)) w_1020 w_1017 w_1019 w_35 w_109 rfl (by decide +kernel)) ?_
  refine aSims_c (i := 40) (s_istore hC dX7_says_72 rfl rfl) ?_
  refine aSims_c (i := 41) (s_iload hC dX7_says_74 rfl rfl) ?_
  refine aSims_c (i := 42) (s_iload_n hC dX7_says_76 rfl rfl) ?_
  refine aSims_c (i := 43) (s_iconst hC dX7_says_77 rfl rfl rfl) ?_
  refine aSims_c (i := 44) (s_icmp_ne hC dX7_says_78 rfl rfl rfl) ?_
  refine aSims_c (i := 45) (s_bipush hC dX7_says_81 rfl rfl rfl) ?_
  refine aSims_c (i := 46) (s_goto hC dX7_says_83 rfl rfl) ?_
  refine aSims_c (i := 47) (s_iconst hC dX7_says_86 rfl rfl rfl) ?_
  refine aSims_c (i := 48) (s_bipush hC dX7_says_87 rfl rfl rfl) ?_
  refine aSims_c (i := 49) (s_callS hC dX7_says_89 rfl rfl (hE 112 _ _ _ _ rfl) (hF _ (by decide)) w_1209 w_1207 w_1208 w_109 (by decide +kernel)) ?_
  refine aSims_c (i := 50) (s_iret hC dX7_says_92 rfl hr hlk nar_qI) ?_
  exact aSims_n
set_option maxHeartbeats 4000000 in
set_option maxRecDepth 20000 in
theorem sm_X7_learnsOf (hC : aC p s m args c cX7_learnsOf 9 RX7 D cA ad bs n0 H0 X) (hF : ∀ ml, ml ≤ 41 → aFit R d ml) (hRm : 16 ≤ R.frames ∧ 1000 ≤ R.locals) (hE : aCalls l D cA ad bs X d E) (hr : meth.sig.returnType = (some .int)) (hlk : meth.locks = false) : aSims (fun f i => aSim p l e R s m args below meth c (aEnd below s args D cA ad bs n0 z0 rv hf) 9 D cA ad bs n0 z0 H0 (apc pc_X7_learnsOf) rv hf E f i) (cd_X7_learnsOf) 0 := by
  unfold cd_X7_learnsOf
  refine aSims_c (i := 0) (s_aload_n hC dX7_learnsOf_0 rfl rfl) ?_
  refine aSims_c (i := 1) (s_get hC dX7_learnsOf_1 rfl rfl w_851 rfl rfl inB7 (by decide)) ?_
  refine aSims_c (i := 2) (s_iload_n hC dX7_learnsOf_4 rfl rfl) ?_
  refine aSims_c (i := 3) (s_iaload hC hX0 dX7_learnsOf_5 rfl rfl) ?_
  refine aSims_c (i := 4) (s_istore hC dX7_learnsOf_6 rfl rfl) ?_
  refine aSims_c (i := 5) (s_aload_n hC dX7_learnsOf_8 rfl rfl) ?_
  refine aSims_c (i := 6) (s_iconst hC dX7_learnsOf_9 rfl rfl rfl) ?_
  refine aSims_c (i := 7) (s_iload_n hC dX7_learnsOf_10 rfl rfl) ?_
  refine aSims_c (i := 8) (s_iload_n hC dX7_learnsOf_11 rfl rfl) ?_
  refine aSims_c (i := 9) (s_iload_n hC dX7_learnsOf_12 rfl rfl) ?_
  refine aSims_c (i := 10) (s_callV (n := 4) hC dX7_learnsOf_13 rfl rfl (hE 173 _ _ _ _ rfl) (hF _ (by decide)) w_1016 w_1013 w_1015 w_34 w_109 rfl (by decide +kernel)) ?_
  refine aSims_c (i := 11) (s_istore hC dX7_learnsOf_16 rfl rfl) ?_
  refine aSims_c (i := 12) (s_iload_n hC dX7_learnsOf_18 rfl rfl) ?_
  refine aSims_c (i := 13) (s_if_ne hC dX7_learnsOf_19 rfl rfl rfl) ?_
  refine aSims_c (i := 14) (s_iconst hC dX7_learnsOf_22 rfl rfl rfl) ?_
  refine aSims_c (i := 15) (s_iload hC dX7_learnsOf_23 rfl rfl) ?_
  refine aSims_c (i := 16) (s_imul hC dX7_learnsOf_25 rfl rfl) ?_
  refine aSims_c (i := 17) (s_goto hC dX7_learnsOf_26 rfl rfl) ?_
  refine aSims_c (i := 18) (s_iload hC dX7_learnsOf_29 rfl rfl) ?_
  refine aSims_c (i := 19) (s_istore hC dX7_learnsOf_31 rfl rfl) ?_
  refine aSims_c (i := 20) (s_iload_n hC dX7_learnsOf_33 rfl rfl) ?_
  refine aSims_c (i := 21) (s_if_ne hC dX7_learnsOf_34 rfl rfl rfl) ?_
  refine aSims_c (i := 22) (s_iload hC dX7_learnsOf_37 rfl rfl) ?_
  refine aSims_c (i := 23) (s_iconst hC dX7_learnsOf_39 rfl rfl rfl) ?_
  refine aSims_c (i := 24) (s_idiv hC dX7_learnsOf_40 rfl rfl) ?_
  refine aSims_c (i := 25) (s_goto hC dX7_learnsOf_41 rfl rfl) ?_
  refine aSims_c (i := 26) (s_iload hC dX7_learnsOf_44 rfl rfl) ?_
  refine aSims_c (i := 27) (s_istore hC dX7_learnsOf_46 rfl rfl) ?_
  refine aSims_c (i := 28) (s_iload hC dX7_learnsOf_48 rfl rfl) ?_
  refine aSims_c (i := 29) (s_iconst hC dX7_learnsOf_50 rfl rfl rfl) ?_
  refine aSims_c (i := 30) (s_icmp_ne hC dX7_learnsOf_51 rfl rfl rfl) ?_
  refine aSims_c (i := 31) (s_iload hC dX7_learnsOf_54 rfl rfl) ?_
  refine aSims_c (i := 32) (s_goto hC dX7_learnsOf_56 rfl rfl) ?_
  refine aSims_c (i := 33) (s_iload hC dX7_learnsOf_59 rfl rfl) ?_
  refine aSims_c (i := 34) (s_iconst hC dX7_learnsOf_61 rfl rfl rfl) ?_
  refine aSims_c (i := 35) (s_icmp_ne hC dX7_learnsOf_62 rfl rfl rfl) ?_
  refine aSims_c (i := 36) (s_iload hC dX7_learnsOf_65 rfl rfl) ?_
  refine aSims_c (i := 37) (s_goto hC dX7_learnsOf_67 rfl rfl) ?_
  refine aSims_c (i := 38) (s_iload hC dX7_learnsOf_70 rfl rfl) ?_
  refine aSims_c (i := 39) (s_iconst hC dX7_learnsOf_72 rfl rfl rfl) ?_
  refine aSims_c (i := 40) (s_icmp_ne hC dX7_learnsOf_73 rfl rfl rfl) ?_
  refine aSims_c (i := 41) (s_iload_n hC dX7_learnsOf_76 rfl rfl) ?_
  refine aSims_c (i := 42) (s_iconst hC dX7_learnsOf_77 rfl rfl rfl) ?_
  refine aSims_c (i := 43) (s_icmp_ne hC dX7_learnsOf_78 rfl rfl rfl) ?_
  refine aSims_c (i := 44) (s_iconst hC dX7_learnsOf_81 rfl rfl rfl) ?_
  refine aSims_c (i := 45) (s_goto hC dX7_learnsOf_82 rfl rfl) ?_
  refine aSims_c (i := 46) (s_iload hC dX7_learnsOf_85 rfl rfl) ?_
  refine aSims_c (i := 47) (s_goto hC dX7_learnsOf_87 rfl rfl) ?_
  refine aSims_c (i := 48) (s_iload hC dX7_learnsOf_90 rfl rfl) ?_
  refine aSims_c (i := 49) (s_iconst hC dX7_learnsOf_92 rfl rfl rfl) ?_
  refine aSims_c (i := 50) (s_icmp_ne hC dX7_learnsOf_93 rfl rfl rfl) ?_
  refine aSims_c (i := 51) (s_iload_n hC dX7_learnsOf_96 rfl rfl) ?_
  refine aSims_c (i := 52) (s_iconst hC dX7_learnsOf_97 rfl rfl rfl) ?_
  refine aSims_c (i := 53) (s_icmp_ne hC dX7_learnsOf_98 rfl rfl rfl) ?_
  refine aSims_c (i := 54) (s_iload hC dX7_learnsOf_101 rfl rfl) ?_
  refine aSims_c (i := 55) (s_aload_n hC dX7_learnsOf_103 rfl rfl) ?_
  refine aSims_c (i := 56) (s_get hC dX7_learnsOf_104 rfl rfl w_852 rfl rfl inB7 (by decide)) ?_
  refine aSims_c (i := 57) (s_iload_n hC dX7_learnsOf_107 rfl rfl) ?_
  refine aSims_c (i := 58) (s_iaload hC hX0 dX7_learnsOf_108 rfl rfl) ?_
  refine aSims_c (i := 59) (s_iadd hC dX7_learnsOf_109 rfl rfl) ?_
  refine aSims_c (i := 60) (s_goto hC dX7_learnsOf_110 rfl rfl) ?_
  refine aSims_c (i := 61) (s_iload hC dX7_learnsOf_113 rfl rfl) ?_
  refine aSims_c (i := 62) (s_goto hC dX7_learnsOf_115 rfl rfl) ?_
  refine aSims_c (i := 63) (s_iload hC dX7_learnsOf_118 rfl rfl) ?_
  refine aSims_c (i := 64) (s_iconst hC dX7_learnsOf_120 rfl rfl rfl) ?_
  refine aSims_c (i := 65) (s_icmp_ne hC dX7_learnsOf_121 rfl rfl rfl) ?_
  refine aSims_c (i := 66) (s_iload hC dX7_learnsOf_124 rfl rfl) ?_
  refine aSims_c (i := 67) (s_iconst hC dX7_learnsOf_126 rfl rfl rfl) ?_
  refine aSims_c (i := 68) (s_icmp_le hC dX7_learnsOf_127 rfl rfl rfl) ?_
  refine aSims_c (i := 69) (s_iconst hC dX7_learnsOf_130 rfl rfl rfl) ?_
  refine aSims_c (i := 70) (s_goto hC dX7_learnsOf_131 rfl rfl) ?_
  refine aSims_c (i := 71) (s_iload hC dX7_learnsOf_134 rfl rfl) ?_
  refine aSims_c (i := 72) (s_istore hC dX7_learnsOf_136 rfl rfl) ?_
  refine aSims_c (i := 73) (s_iload hC dX7_learnsOf_138 rfl rfl) ?_
  refine aSims_c (i := 74) (s_iconst hC dX7_learnsOf_140 rfl rfl rfl) ?_
  refine aSims_c (i := 75) (s_bipush hC dX7_learnsOf_141 rfl rfl rfl) ?_
  refine aSims_c (i := 76) (s_callS hC dX7_learnsOf_143 rfl rfl (hE 112 _ _ _ _ rfl) (hF _ (by decide)) w_1209 w_1207 w_1208 w_109 (by decide +kernel)) ?_
  refine aSims_c (i := 77) (s_iret hC dX7_learnsOf_146 rfl hr hlk nar_qI) ?_
  exact aSims_n
set_option maxHeartbeats 4000000 in
set_option maxRecDepth 20000 in
theorem sm_X7_forgetsOf (hC : aC p s m args c cX7_forgetsOf 5 RX7 D cA ad bs n0 H0 X) (hF : ∀ ml, ml ≤ 41 → aFit R d ml) (hRm : 16 ≤ R.frames ∧ 1000 ≤ R.locals) (hE : aCalls l D cA ad bs X d E) (hr : meth.sig.returnType = (some .int)) (hlk : meth.locks = false) : aSims (fun f i => aSim p l e R s m args below meth c (aEnd below s args D cA ad bs n0 z0 rv hf) 5 D cA ad bs n0 z0 H0 (apc pc_X7_forgetsOf) rv hf E f i) (cd_X7_forgetsOf) 0 := by
  unfold cd_X7_forgetsOf
  refine aSims_c (i := 0) (s_aload_n hC dX7_forgetsOf_0 rfl rfl) ?_
  refine aSims_c (i := 1) (s_get hC dX7_forgetsOf_1 rfl rfl w_851 rfl rfl inB7 (by decide)) ?_
  refine aSims_c (i := 2) (s_iload_n hC dX7_forgetsOf_4 rfl rfl) ?_
  refine aSims_c (i := 3) (s_iaload hC hX0 dX7_forgetsOf_5 rfl rfl) ?_
  refine aSims_c (i := 4) (s_istore_n hC dX7_forgetsOf_6 rfl rfl) ?_
  refine aSims_c (i := 5) (s_aload_n hC dX7_forgetsOf_7 rfl rfl) ?_
  refine aSims_c (i := 6) (s_iconst hC dX7_forgetsOf_8 rfl rfl rfl) ?_
  refine aSims_c (i := 7) (s_iload_n hC dX7_forgetsOf_9 rfl rfl) ?_
  refine aSims_c (i := 8) (s_iload_n hC dX7_forgetsOf_10 rfl rfl) ?_
  refine aSims_c (i := 9) (s_iconst hC dX7_forgetsOf_11 rfl rfl rfl) ?_
  refine aSims_c (i := 10) (s_callV (n := 4) hC dX7_forgetsOf_12 rfl rfl (hE 173 _ _ _ _ rfl) (hF _ (by decide)) w_1016 w_1013 w_1015 w_34 w_109 rfl (by decide +kernel)) ?_
  refine aSims_c (i := 11) (s_istore hC dX7_forgetsOf_15 rfl rfl) ?_
  refine aSims_c (i := 12) (s_iload_n hC dX7_forgetsOf_17 rfl rfl) ?_
  refine aSims_c (i := 13) (s_iconst hC dX7_forgetsOf_18 rfl rfl rfl) ?_
  refine aSims_c (i := 14) (s_icmp_eq hC dX7_forgetsOf_19 rfl rfl rfl) ?_
  refine aSims_c (i := 15) (s_iload_n hC dX7_forgetsOf_22 rfl rfl) ?_
  refine aSims_c (i := 16) (s_iconst hC dX7_forgetsOf_23 rfl rfl rfl) ?_
  refine aSims_c (i := 17) (s_icmp_ne hC dX7_forgetsOf_24 rfl rfl rfl) ?_
  refine aSims_c (i := 18) (s_iload hC dX7_forgetsOf_27 rfl rfl) ?_
  refine aSims_c (i := 19) (s_iconst hC dX7_forgetsOf_29 rfl rfl rfl) ?_
  refine aSims_c (i := 20) (s_iadd hC dX7_forgetsOf_30 rfl rfl) ?_
  refine aSims_c (i := 21) (s_goto hC dX7_forgetsOf_31 rfl rfl) ?_
  refine aSims_c (i := 22) (s_iload_n hC dX7_forgetsOf_34 rfl rfl) ?_
  refine aSims_c (i := 23) (s_iconst hC dX7_forgetsOf_35 rfl rfl rfl) ?_
  refine aSims_c (i := 24) (s_icmp_ne hC dX7_forgetsOf_36 rfl rfl rfl) ?_
  refine aSims_c (i := 25) (s_iconst hC dX7_forgetsOf_39 rfl rfl rfl) ?_
  refine aSims_c (i := 26) (s_iload hC dX7_forgetsOf_40 rfl rfl) ?_
  refine aSims_c (i := 27) (s_imul hC dX7_forgetsOf_42 rfl rfl) ?_
  refine aSims_c (i := 28) (s_goto hC dX7_forgetsOf_43 rfl rfl) ?_
  refine aSims_c (i := 29) (s_iload_n hC dX7_forgetsOf_46 rfl rfl) ?_
  refine aSims_c (i := 30) (s_iconst hC dX7_forgetsOf_47 rfl rfl rfl) ?_
  refine aSims_c (i := 31) (s_icmp_ne hC dX7_forgetsOf_48 rfl rfl rfl) ?_
  refine aSims_c (i := 32) (s_iload hC dX7_forgetsOf_51 rfl rfl) ?_
  refine aSims_c (i := 33) (s_aload_n hC dX7_forgetsOf_53 rfl rfl) ?_
  refine aSims_c (i := 34) (s_get hC dX7_forgetsOf_54 rfl rfl w_852 rfl rfl inB7 (by decide)) ?_
  refine aSims_c (i := 35) (s_iload_n hC dX7_forgetsOf_57 rfl rfl) ?_
  refine aSims_c (i := 36) (s_iaload hC hX0 dX7_forgetsOf_58 rfl rfl) ?_
  refine aSims_c (i := 37) (s_iadd hC dX7_forgetsOf_59 rfl rfl) ?_
  refine aSims_c (i := 38) (s_goto hC dX7_forgetsOf_60 rfl rfl) ?_
  refine aSims_c (i := 39) (s_iload hC dX7_forgetsOf_63 rfl rfl) ?_
  refine aSims_c (i := 40) (s_iconst hC dX7_forgetsOf_65 rfl rfl rfl) ?_
  refine aSims_c (i := 41) (s_bipush hC dX7_forgetsOf_66 rfl rfl rfl) ?_
  refine aSims_c (i := 42) (s_callS hC dX7_forgetsOf_68 rfl rfl (hE 112 _ _ _ _ rfl) (hF _ (by decide)) w_1209 w_1207 w_1208 w_109 (by decide +kernel)) ?_
  refine aSims_c (i := 43) (s_iret hC dX7_forgetsOf_71 rfl hr hlk nar_qI) ?_
  exact aSims_n
set_option maxHeartbeats 4000000 in
set_option maxRecDepth 20000 in
theorem sm_X7_nerveOf (hC : aC p s m args c cX7_nerveOf 5 RX7 D cA ad bs n0 H0 X) (hF : ∀ ml, ml ≤ 41 → aFit R d ml) (hRm : 16 ≤ R.frames ∧ 1000 ≤ R.locals) (hE : aCalls l D cA ad bs X d E) (hr : meth.sig.returnType = (some .int)) (hlk : meth.locks = false) : aSims (fun f i => aSim p l e R s m args below meth c (aEnd below s args D cA ad bs n0 z0 rv hf) 5 D cA ad bs n0 z0 H0 (apc pc_X7_nerveOf) rv hf E f i) (cd_X7_nerveOf) 0 := by
  unfold cd_X7_nerveOf
  refine aSims_c (i := 0) (s_aload_n hC dX7_nerveOf_0 rfl rfl) ?_
  refine aSims_c (i := 1) (s_get hC dX7_nerveOf_1 rfl rfl w_851 rfl rfl inB7 (by decide)) ?_
  refine aSims_c (i := 2) (s_iload_n hC dX7_nerveOf_4 rfl rfl) ?_
  refine aSims_c (i := 3) (s_iaload hC hX0 dX7_nerveOf_5 rfl rfl) ?_
  refine aSims_c (i := 4) (s_istore_n hC dX7_nerveOf_6 rfl rfl) ?_
  refine aSims_c (i := 5) (s_iload_n hC dX7_nerveOf_7 rfl rfl) ?_
  refine aSims_c (i := 6) (s_iconst hC dX7_nerveOf_8 rfl rfl rfl) ?_
  refine aSims_c (i := 7) (s_icmp_ne hC dX7_nerveOf_9 rfl rfl rfl) ?_
  refine aSims_c (i := 8) (s_aload_n hC dX7_nerveOf_12 rfl rfl) ?_
  refine aSims_c (i := 9) (s_get hC dX7_nerveOf_13 rfl rfl w_853 rfl rfl inB7 (by decide)) ?_
  refine aSims_c (i := 10) (s_iload_n hC dX7_nerveOf_16 rfl rfl) ?_
  refine aSims_c (i := 11) (s_bipush hC dX7_nerveOf_17 rfl rfl rfl) ?_
  refine aSims_c (i := 12) (s_callS hC dX7_nerveOf_19 rfl rfl (hE 117 _ _ _ _ rfl) (hF _ (by decide)) w_1000 w_998 w_999 w_109 (by decide +kernel)) ?_
  refine aSims_c (i := 13) (s_iaload hC hX0 dX7_nerveOf_22 rfl rfl) ?_
  refine aSims_c (i := 14) (s_iconst hC dX7_nerveOf_23 rfl rfl rfl) ?_
  refine aSims_c (i := 15) (s_icmp_le hC dX7_nerveOf_24 rfl rfl rfl) ?_
  refine aSims_c (i := 16) (s_iconst hC dX7_nerveOf_27 rfl rfl rfl) ?_
  refine aSims_c (i := 17) (s_iret hC dX7_nerveOf_28 rfl hr hlk nar_qI) ?_
  refine aSims_c (i := 18) (s_aload_n hC dX7_nerveOf_29 rfl rfl) ?_
  refine aSims_c (i := 19) (s_iconst hC dX7_nerveOf_30 rfl rfl rfl) ?_
  refine aSims_c (i := 20) (s_iload_n hC dX7_nerveOf_31 rfl rfl) ?_
  refine aSims_c (i := 21) (s_iload_n hC dX7_nerveOf_32 rfl rfl) ?_
  refine aSims_c (i := 22) (s_iconst hC dX7_nerveOf_33 rfl rfl rfl) ?_
  refine aSims_c (i := 23) (s_callV (n := 4) hC dX7_nerveOf_34 rfl rfl (hE 173 _ _ _ _ rfl) (hF _ (by decide)) w_1016 w_1013 w_1015 w_34 w_109 rfl (by decide +kernel)) ?_
  refine aSims_c (i := 24) (s_istore hC dX7_nerveOf_37 rfl rfl) ?_
  refine aSims_c (i := 25) (s_iload_n hC dX7_nerveOf_39 rfl rfl) ?_
  refine aSims_c (i := 26) (s_iconst hC dX7_nerveOf_40 rfl rfl rfl) ?_
  refine aSims_c (i := 27) (s_icmp_ne hC dX7_nerveOf_41 rfl rfl rfl) ?_
  refine aSims_c (i := 28) (s_iload hC dX7_nerveOf_44 rfl rfl) ?_
  refine aSims_c (i := 29) (s_iconst hC dX7_nerveOf_46 rfl rfl rfl) ?_
  refine aSims_c (i := 30) (s_iadd hC dX7_nerveOf_47 rfl rfl) ?_
  refine aSims_c (i := 31) (s_goto hC dX7_nerveOf_48 rfl rfl) ?_
  refine aSims_c (i := 32) (s_iload_n hC dX7_nerveOf_51 rfl rfl) ?_
  refine aSims_c (i := 33) (s_iconst hC dX7_nerveOf_52 rfl rfl rfl) ?_
  refine aSims_c (i := 34) (s_icmp_ne hC dX7_nerveOf_53 rfl rfl rfl) ?_
  refine aSims_c (i := 35) (s_iload hC dX7_nerveOf_56 rfl rfl) ?_
  refine aSims_c (i := 36) (s_iconst hC dX7_nerveOf_58 rfl rfl rfl) ?_
  refine aSims_c (i := 37) (s_iadd hC dX7_nerveOf_59 rfl rfl) ?_
  refine aSims_c (i := 38) (s_aload_n hC dX7_nerveOf_60 rfl rfl) ?_
  refine aSims_c (i := 39) (s_get hC dX7_nerveOf_61 rfl rfl w_852 rfl rfl inB7 (by decide)) ?_
  refine aSims_c (i := 40) (s_iload_n hC dX7_nerveOf_64 rfl rfl) ?_
  refine aSims_c (i := 41) (s_iaload hC hX0 dX7_nerveOf_65 rfl rfl) ?_
  refine aSims_c (i := 42) (s_iadd hC dX7_nerveOf_66 rfl rfl) ?_
  refine aSims_c (i := 43) (s_goto hC dX7_nerveOf_67 rfl rfl) ?_
  refine aSims_c (i := 44) (s_iload_n hC dX7_nerveOf_70 rfl rfl) ?_
  refine aSims_c (i := 45) (s_iconst hC dX7_nerveOf_71 rfl rfl rfl) ?_
  refine aSims_c (i := 46) (s_icmp_eq hC dX7_nerveOf_72 rfl rfl rfl) ?_
  refine aSims_c (i := 47) (s_iload_n hC dX7_nerveOf_75 rfl rfl) ?_
  refine aSims_c (i := 48) (s_iconst hC dX7_nerveOf_76 rfl rfl rfl) ?_
  refine aSims_c (i := 49) (s_icmp_ne hC dX7_nerveOf_77 rfl rfl rfl) ?_
  refine aSims_c (i := 50) (s_iload hC dX7_nerveOf_80 rfl rfl) ?_
  refine aSims_c (i := 51) (s_iconst hC dX7_nerveOf_82 rfl rfl rfl) ?_
  refine aSims_c (i := 52) (s_isub hC dX7_nerveOf_83 rfl rfl) ?_
  refine aSims_c (i := 53) (s_goto hC dX7_nerveOf_84 rfl rfl) ?_
  refine aSims_c (i := 54) (s_iload_n hC dX7_nerveOf_87 rfl rfl) ?_
  refine aSims_c (i := 55) (s_iconst hC dX7_nerveOf_88 rfl rfl rfl) ?_
  refine aSims_c (i := 56) (s_icmp_ne hC dX7_nerveOf_89 rfl rfl rfl) ?_
  refine aSims_c (i := 57) (s_iload hC dX7_nerveOf_92 rfl rfl) ?_
  refine aSims_c (i := 58) (s_iconst hC dX7_nerveOf_94 rfl rfl rfl) ?_
  refine aSims_c (i := 59) (s_idiv hC dX7_nerveOf_95 rfl rfl) ?_
  refine aSims_c (i := 60) (s_goto hC dX7_nerveOf_96 rfl rfl) ?_
  refine aSims_c (i := 61) (s_iload hC dX7_nerveOf_99 rfl rfl) ?_
  refine aSims_c (i := 62) (s_iret hC dX7_nerveOf_101 rfl hr hlk nar_qI) ?_
  exact aSims_n
set_option maxHeartbeats 4000000 in
set_option maxRecDepth 20000 in
theorem sm_X7_overOf (hC : aC p s m args c cX7_overOf 3 RX7 D cA ad bs n0 H0 X) (hF : ∀ ml, ml ≤ 41 → aFit R d ml) (hRm : 16 ≤ R.frames ∧ 1000 ≤ R.locals) (hE : aCalls l D cA ad bs X d E) (hr : meth.sig.returnType = (some .int)) (hlk : meth.locks = false) : aSims (fun f i => aSim p l e R s m args below meth c (aEnd below s args D cA ad bs n0 z0 rv hf) 3 D cA ad bs n0 z0 H0 (apc pc_X7_overOf) rv hf E f i) (cd_X7_overOf) 0 := by
  unfold cd_X7_overOf
  refine aSims_c (i := 0) (s_aload_n hC dX7_overOf_0 rfl rfl) ?_
  refine aSims_c (i := 1) (s_get hC dX7_overOf_1 rfl rfl w_853 rfl rfl inB7 (by decide)) ?_
  refine aSims_c (i := 2) (s_iload_n hC dX7_overOf_4 rfl rfl) ?_
  refine aSims_c (i := 3) (s_iload_n hC dX7_overOf_5 rfl rfl) ?_
  refine aSims_c (i := 4) (s_callS hC dX7_overOf_6 rfl rfl (hE 117 _ _ _ _ rfl) (hF _ (by decide)) w_1000 w_998 w_999 w_109 (by decide +kernel)) ?_
  refine aSims_c (i := 5) (s_iaload hC hX0 dX7_overOf_9 rfl rfl) ?_
  refine aSims_c (i := 6) (s_aload_n hC dX7_overOf_10 rfl rfl) ?_
  refine aSims_c (i := 7) (s_iload_n hC dX7_overOf_11 rfl rfl) ?_
  refine aSims_c (i := 8) (s_iload_n hC dX7_overOf_12 rfl rfl) ?_
  refine aSims_c (i := 9) (s_callV (n := 2) hC dX7_overOf_13 rfl rfl (hE 176 _ _ _ _ rfl) (hF _ (by decide)) w_1012 w_1009 w_1011 w_33 w_109 rfl (by decide +kernel)) ?_
  refine aSims_c (i := 10) (s_iadd hC dX7_overOf_16 rfl rfl) ?_
  refine aSims_c (i := 11) (s_aload_n hC dX7_overOf_17 rfl rfl) ?_
  refine aSims_c (i := 12) (s_get hC dX7_overOf_18 rfl rfl w_850 rfl rfl inB7 (by decide)) ?_
  refine aSims_c (i := 13) (s_iload_n hC dX7_overOf_21 rfl rfl) ?_
  refine aSims_c (i := 14) (s_iaload hC hX0 dX7_overOf_22 rfl rfl) ?_
  refine aSims_c (i := 15) (s_isub hC dX7_overOf_23 rfl rfl) ?_
  refine aSims_c (i := 16) (s_iret hC dX7_overOf_24 rfl hr hlk nar_qI) ?_
  exact aSims_n
set_option maxHeartbeats 4000000 in
set_option maxRecDepth 20000 in
theorem sm_X7_manages (hC : aC p s m args c cX7_manages 3 RX7 D cA ad bs n0 H0 X) (hF : ∀ ml, ml ≤ 41 → aFit R d ml) (hRm : 16 ≤ R.frames ∧ 1000 ≤ R.locals) (hE : aCalls l D cA ad bs X d E) (hr : meth.sig.returnType = (some .boolean)) (hlk : meth.locks = false) : aSims (fun f i => aSim p l e R s m args below meth c (aEnd below s args D cA ad bs n0 z0 rv hf) 3 D cA ad bs n0 z0 H0 (apc pc_X7_manages) rv hf E f i) (cd_X7_manages) 0 := by
  unfold cd_X7_manages
  refine aSims_c (i := 0) (s_aload_n hC dX7_manages_0 rfl rfl) ?_
  refine aSims_c (i := 1) (s_iload_n hC dX7_manages_1 rfl rfl) ?_
  refine aSims_c (i := 2) (s_iload_n hC dX7_manages_2 rfl rfl) ?_
  refine aSims_c (i := 3) (s_callV (n := 2) hC dX7_manages_3 rfl rfl (hE 177 _ _ _ _ rfl) (hF _ (by decide)) w_1008 w_1005 w_1007 w_32 w_109 rfl (by decide +kernel)) ?_
  refine aSims_c (i := 4) (s_if_lt hC dX7_manages_6 rfl rfl rfl) ?_
  refine aSims_c (i := 5) (s_iconst hC dX7_manages_9 rfl rfl rfl) ?_
  refine aSims_c (i := 6) (s_goto hC dX7_manages_10 rfl rfl) ?_
  refine aSims_c (i := 7) (s_iconst hC dX7_manages_13 rfl rfl rfl) ?_
  refine aSims_c (i := 8) (s_iret hC dX7_manages_14 rfl hr hlk nar_qZ) ?_
  exact aSims_n
set_option maxHeartbeats 4000000 in
set_option maxRecDepth 20000 in
theorem sm_X7_managedMany (hC : aC p s m args c cX7_managedMany 4 RX7 D cA ad bs n0 H0 X) (hF : ∀ ml, ml ≤ 41 → aFit R d ml) (hRm : 16 ≤ R.frames ∧ 1000 ≤ R.locals) (hE : aCalls l D cA ad bs X d E) (hr : meth.sig.returnType = (some .int)) (hlk : meth.locks = false) : aSims (fun f i => aSim p l e R s m args below meth c (aEnd below s args D cA ad bs n0 z0 rv hf) 4 D cA ad bs n0 z0 H0 (apc pc_X7_managedMany) rv hf E f i) (cd_X7_managedMany) 0 := by
  unfold cd_X7_managedMany
  refine aSims_c (i := 0) (s_iconst hC dX7_managedMany_0 rfl rfl rfl) ?_
  refine aSims_c (i := 1) (s_istore_n hC dX7_managedMany_1 rfl rfl) ?_
  refine aSims_c (i := 2) (s_iconst hC dX7_managedMany_2 rfl rfl rfl) ?_
  refine aSims_c (i := 3) (s_istore_n hC dX7_managedMany_3 rfl rfl) ?_
  refine aSims_c (i := 4) (s_iload_n hC dX7_managedMany_4 rfl rfl) ?_
  refine aSims_c (i := 5) (s_bipush hC dX7_managedMany_5 rfl rfl rfl) ?_
  refine aSims_c (i := 6) (s_icmp_ge hC dX7_managedMany_7 rfl rfl rfl) ?_
  refine aSims_c (i := 7) (s_iload_n hC dX7_managedMany_10 rfl rfl) ?_
  refine aSims_c (i := 8) (s_aload_n hC dX7_managedMany_11 rfl rfl) ?_
  refine aSims_c (i := 9) (s_iload_n hC dX7_managedMany_12 rfl rfl) ?_
  refine aSims_c (i := 10) (s_iload_n hC dX7_managedMany_13 rfl rfl) ?_
  refine aSims_c (i := 11) (s_callV (n := 2) hC dX7_managedMany_14 rfl rfl (hE 178 _ _ _ _ rfl) (hF _ (by decide)) w_1004 w_1001 w_1003 w_31 w_109 rfl (by decide +kernel)) ?_
  refine aSims_c (i := 12) (s_if_eq hC dX7_managedMany_17 rfl rfl rfl) ?_
  refine aSims_c (i := 13) (s_iconst hC dX7_managedMany_20 rfl rfl rfl) ?_
  refine aSims_c (i := 14) (s_goto hC dX7_managedMany_21 rfl rfl) ?_
  refine aSims_c (i := 15) (s_iconst hC dX7_managedMany_24 rfl rfl rfl) ?_
  refine aSims_c (i := 16) (s_iadd hC dX7_managedMany_25 rfl rfl) ?_
  refine aSims_c (i := 17) (s_istore_n hC dX7_managedMany_26 rfl rfl) ?_
  refine aSims_c (i := 18) (s_iinc hC dX7_managedMany_27 rfl rfl) ?_
  refine aSims_c (i := 19) (s_goto hC dX7_managedMany_30 rfl rfl) ?_
  refine aSims_c (i := 20) (s_iload_n hC dX7_managedMany_33 rfl rfl) ?_
  refine aSims_c (i := 21) (s_iret hC dX7_managedMany_34 rfl hr hlk nar_qI) ?_
  exact aSims_n
set_option maxHeartbeats 4000000 in
set_option maxRecDepth 20000 in
theorem sm_X7_asks (hC : aC p s m args c cX7_asks 4 RX7 D cA ad bs n0 H0 X) (hF : ∀ ml, ml ≤ 41 → aFit R d ml) (hRm : 16 ≤ R.frames ∧ 1000 ≤ R.locals) (hE : aCalls l D cA ad bs X d E) (hr : meth.sig.returnType = (some .int)) (hlk : meth.locks = false) : aSims (fun f i => aSim p l e R s m args below meth c (aEnd below s args D cA ad bs n0 z0 rv hf) 4 D cA ad bs n0 z0 H0 (apc pc_X7_asks) rv hf E f i) (cd_X7_asks) 0 := by
  unfold cd_X7_asks
  refine aSims_c (i := 0) (s_aload_n hC dX7_asks_0 rfl rfl) ?_
  refine aSims_c (i := 1) (s_iload_n hC dX7_asks_1 rfl rfl) ?_
  refine aSims_c (i := 2) (s_callV (n := 1) hC dX7_asks_2 rfl rfl (hE 115 _ _ _ _ rfl) (hF _ (by decide)) w_988 w_985 w_987 w_30 w_109 rfl (by decide +kernel)) ?_
  refine aSims_c (i := 3) (s_if_eq hC dX7_asks_5 rfl rfl rfl) ?_
  refine aSims_c (i := 4) (s_iload_n hC dX7_asks_8 rfl rfl) ?_
  refine aSims_c (i := 5) (s_callS hC dX7_asks_9 rfl rfl (hE 116 _ _ _ _ rfl) (hF _ (by decide)) w_983 w_981 w_982 w_109 (by decide +kernel)) ?_
  refine aSims_c (i := 6) (s_if_eq hC dX7_asks_12 rfl rfl rfl) ?_
  refine aSims_c (i := 7) (s_iload_n hC dX7_asks_15 rfl rfl) ?_
  refine aSims_c (i := 8) (s_i2l hC dX7_asks_16 rfl rfl) ?_
  refine aSims_c (i := 9) (s_lconst hC dX7_asks_17 rfl rfl rfl) ?_
  refine aSims_c (i := 10) (s_ldc2 hC dX7_asks_18 w_971 rfl rfl) ?_
  refine aSims_c (i := 11) (s_callS hC dX7_asks_21 rfl rfl (hE 111 _ _ _ _ rfl) (hF _ (by decide)) w_974 w_972 w_973 w_109 (by decide +kernel)) ?_
  refine aSims_c (i := 12) (s_if_ne hC dX7_asks_24 rfl rfl rfl) ?_
  refine aSims_c (i := 13) (s_sipush hC dX7_asks_27 rfl rfl rfl) ?_
  refine aSims_c (i := 14) (s_iret hC dX7_asks_30 rfl hr hlk nar_qI) ?_
  refine aSims_c (i := 15) (s_iload_n hC dX7_asks_31 rfl rfl) ?_
  refine aSims_c (i := 16) (s_iconst hC dX7_asks_32 rfl rfl rfl) ?_
  refine aSims_c (i := 17) (s_icmp_ge hC dX7_asks_33 rfl rfl rfl) ?_
  refine aSims_c (i := 18) (s_aload_n hC dX7_asks_36 rfl rfl) ?_
  refine aSims_c (i := 19) (s_iload_n hC dX7_asks_37 rfl rfl) ?_
  refine aSims_c (i := 20) (s_iload_n hC dX7_asks_38 rfl rfl) ?_
  refine aSims_c (i := 21) (s_iload_n hC dX7_asks_39 rfl rfl) ?_
  refine aSims_c (i := 22) (s_callV (n := 3) hC dX7_asks_40 rfl rfl (hE 174 _ _ _ _ rfl) (hF _ (by decide)) w_1245 w_1242 w_1244 w_83 w_109 rfl (by decide +kernel)) ?_
  refine aSims_c (i := 23) (s_goto hC dX7_asks_43 rfl rfl) ?_
  refine aSims_c (i := 24) (s_iload_n hC dX7_asks_46 rfl rfl) ?_
  refine aSims_c (i := 25) (s_iconst hC dX7_asks_47 rfl rfl rfl) ?_
  refine aSims_c (i := 26) (s_icmp_ne hC dX7_asks_48 rfl rfl rfl) ?_
  refine aSims_c (i := 27) (s_aload_n hC dX7_asks_51 rfl rfl) ?_
  refine aSims_c (i := 28) (s_iload_n hC dX7_asks_52 rfl rfl) ?_
  refine aSims_c (i := 29) (s_iload_n hC dX7_asks_53 rfl rfl) ?_
  refine aSims_c (i := 30) (s_callV (n := 2) hC dX7_asks_54 rfl rfl (hE 175 _ _ _ _ rfl) (hF _ (by decide)) w_1249 w_1246 w_1248 w_84 w_109 rfl (by decide +kernel)) ?_
  refine aSims_c (i := 31) (s_goto hC dX7_asks_57 rfl rfl) ?_
  refine aSims_c (i := 32) (s_aload_n hC dX7_asks_60 rfl rfl) ?_
  refine aSims_c (i := 33) (s_iload_n hC dX7_asks_61 rfl rfl) ?_
  refine aSims_c (i := 34) (s_iload_n hC dX7_asks_62 rfl rfl) ?_
  refine aSims_c (i := 35) (s_callV (n := 2) hC dX7_asks_63 rfl rfl (hE 176 _ _ _ _ rfl) (hF _ (by decide)) w_1012 w_1009 w_1011 w_33 w_109 rfl (by decide +kernel)) ?_
  refine aSims_c (i := 36) (s_iret hC dX7_asks_66 rfl hr hlk nar_qI) ?_
  exact aSims_n
set_option maxHeartbeats 4000000 in
set_option maxRecDepth 20000 in
theorem sm_X7_drives (hC : aC p s m args c cX7_drives 6 RX7 D cA ad bs n0 H0 X) (hF : ∀ ml, ml ≤ 41 → aFit R d ml) (hRm : 16 ≤ R.frames ∧ 1000 ≤ R.locals) (hE : aCalls l D cA ad bs X d E) (hr : meth.sig.returnType = none) (hlk : meth.locks = false) : aSims (fun f i => aSim p l e R s m args below meth c (aEnd below s args D cA ad bs n0 z0 rv hf) 6 D cA ad bs n0 z0 H0 (apc pc_X7_drives) rv hf E f i) (cd_X7_drives) 0 := by
  unfold cd_X7_drives
  refine aSims_c (i := 0) (s_aload_n hC dX7_drives_0 rfl rfl) ?_
  refine aSims_c (i := 1) (s_iload_n hC dX7_drives_1 rfl rfl) ?_
  refine aSims_c (i := 2) (s_iload_n hC dX7_drives_2 rfl rfl) ?_
  refine aSims_c (i := 3) (s_iload_n hC dX7_drives_3 rfl rfl) ?_
  refine aSims_c (i := 4) (s_callV (n := 3) hC dX7_drives_4 rfl rfl (hE 174 _ _ _ _ rfl) (hF _ (by decide)) w_1245 w_1242 w_1244 w_83 w_109 rfl (by decide +kernel)) ?_
  refine aSims_c (i := 5) (s_istore hC dX7_drives_7 rfl rfl) ?_
  refine aSims_c (i := 6) (s_iload_n hC dX7_drives_9 rfl rfl) ?_
  refine aSims_c (i := 7) (s_iconst hC dX7_drives_10 rfl rfl rfl) ?_
  refine aSims_c (i := 8) (s_icmp_eq hC dX7_drives_11 rfl rfl rfl) ?_
  refine aSims_c (i := 9) (s_aload_n hC dX7_drives_14 rfl rfl) ?_
  refine aSims_c (i := 10) (s_iload_n hC dX7_drives_15 rfl rfl) ?_
  refine aSims_c (i := 11) (s_iload_n hC dX7_drives_16 rfl rfl) ?_
  refine aSims_c (i := 12) (s_callV (n := 2) hC dX7_drives_17 rfl rfl (hE 178 _ _ _ _ rfl) (hF _ (by decide)) w_1004 w_1001 w_1003 w_31 w_109 rfl (by decide +kernel)) ?_
  refine aSims_c (i := 13) (s_if_ne hC dX7_drives_20 rfl rfl rfl) ?_
  refine aSims_c (i := 14) (s_iconst hC dX7_drives_23 rfl rfl rfl) ?_
  refine aSims_c (i := 15) (s_goto hC dX7_drives_24 rfl rfl) ?_
  refine aSims_c (i := 16) (s_iconst hC dX7_drives_27 rfl rfl rfl) ?_
  refine aSims_c (i := 17) (s_istore hC dX7_drives_28 rfl rfl) ?_
  refine aSims_c (i := 18) (s_aload_n hC dX7_drives_30 rfl rfl) ?_
  refine aSims_c (i := 19) (s_get hC dX7_drives_31 rfl rfl w_853 rfl rfl inB7 (by decide)) ?_
  refine aSims_c (i := 20) (s_iload_n hC dX7_drives_34 rfl rfl) ?_
  refine aSims_c (i := 21) (s_iload_n hC dX7_drives_35 rfl rfl) ?_
  refine aSims_c (i := 22) (s_callS hC dX7_drives_36 rfl rfl (hE 117 _ _ _ _ rfl) (hF _ (by decide)) w_1000 w_998 w_999 w_109 (by decide +kernel)) ?_
  refine aSims_c (i := 23) (s_aload_n hC dX7_drives_39 rfl rfl) ?_
  refine aSims_c (i := 24) (s_get hC dX7_drives_40 rfl rfl w_853 rfl rfl inB7 (by decide)) ?_
  refine aSims_c (i := 25) (s_iload_n hC dX7_drives_43 rfl rfl) ?_
  refine aSims_c (i := 26) (s_iload_n hC dX7_drives_44 rfl rfl) ?_
  refine aSims_c (i := 27) (s_callS hC dX7_drives_45 rfl rfl (hE 117 _ _ _ _ rfl) (hF _ (by decide)) w_1000 w_998 w_999 w_109 (by decide +kernel)) ?_
  refine aSims_c (i := 28) (s_iaload hC hX0 dX7_drives_48 rfl rfl) ?_
  refine aSims_c (i := 29) (s_iload hC dX7_drives_49 rfl rfl) ?_
  refine aSims_c (i := 30) (s_if_eq hC dX7_drives_51 rfl rfl rfl) ?_
  refine aSims_c (i := 31) (s_iload hC dX7_drives_54 rfl rfl) ?_
  refine aSims_c (i := 32) (s_iconst hC dX7_drives_56 rfl rfl rfl) ?_
  refine aSims_c (i := 33) (s_idiv hC dX7_drives_57 rfl rfl) ?_
  refine aSims_c (i := 34) (s_goto hC dX7_drives_58 rfl rfl) ?_
  refine aSims_c (i := 35) (s_iload hC dX7_drives_61 rfl rfl) ?_
  refine aSims_c (i := 36) (s_iadd hC dX7_drives_63 rfl rfl) ?_
  refine aSims_c (i := 37) (s_iconst hC dX7_drives_64 rfl rfl rfl) ?_
  refine aSims_c (i := 38) (s_bipush hC dX7_drives_65 rfl rfl rfl) ?_
  refine aSims_c (i := 39) (s_callS hC dX7_drives_67 rfl rfl (hE 112 _ _ _ _ rfl) (hF _ (by decide)) w_1209 w_1207 w_1208 w_109 (by decide +kernel)) ?_
  refine aSims_c (i := 40) (s_iastore hC dX7_drives_70 rfl rfl) ?_
  refine aSims_c (i := 41) (s_aload_n hC dX7_drives_71 rfl rfl) ?_
  refine aSims_c (i := 42) (s_get hC dX7_drives_72 rfl rfl w_853 rfl rfl inB7 (by decide)) ?_
  refine aSims_c (i := 43) (s_iload_n hC dX7_drives_75 rfl rfl) ?_
  refine aSims_c (i := 44) (s_bipush hC dX7_drives_76 rfl rfl rfl) ?_
  refine aSims_c (i := 45) (s_callS hC dX7_drives_78 rfl rfl (hE 117 _ _ _ _ rfl) (hF _ (by decide)) w_1000 w_998 w_999 w_109 (by decide +kernel)) ?_
  refine aSims_c (i := 46) (s_aload_n hC dX7_drives_81 rfl rfl) ?_
  refine aSims_c (i := 47) (s_get hC dX7_drives_82 rfl rfl w_853 rfl rfl inB7 (by decide)) ?_
  refine aSims_c (i := 48) (s_iload_n hC dX7_drives_85 rfl rfl) ?_
  refine aSims_c (i := 49) (s_bipush hC dX7_drives_86 rfl rfl rfl) ?_
  refine aSims_c (i := 50) (s_callS hC dX7_drives_88 rfl rfl (hE 117 _ _ _ _ rfl) (hF _ (by decide)) w_1000 w_998 w_999 w_109 (by decide +kernel)) ?_
  refine aSims_c (i := 51) (s_iaload hC hX0 dX7_drives_91 rfl rfl) ?_
  refine aSims_c (i := 52) (s_iload hC dX7_drives_92 rfl rfl) ?_
  refine aSims_c (i := 53) (s_if_eq hC dX7_drives_94 rfl rfl rfl) ?_
  refine aSims_c (i := 54) (s_iconst hC dX7_drives_97 rfl rfl rfl) ?_
  refine aSims_c (i := 55) (s_goto hC dX7_drives_98 rfl rfl) ?_
  refine aSims_c (i := 56) (s_iconst hC dX7_drives_101 rfl rfl rfl) ?_
  refine aSims_c (i := 57) (s_iadd hC dX7_drives_102 rfl rfl) ?_
  refine aSims_c (i := 58) (s_iconst hC dX7_drives_103 rfl rfl rfl) ?_
  refine aSims_c (i := 59) (s_sipush hC dX7_drives_104 rfl rfl rfl) ?_
  refine aSims_c (i := 60) (s_callS hC dX7_drives_107 rfl rfl (hE 112 _ _ _ _ rfl) (hF _ (by decide)) w_1209 w_1207 w_1208 w_109 (by decide +kernel)) ?_
  refine aSims_c (i := 61) (s_iastore hC dX7_drives_110 rfl rfl) ?_
  refine aSims_c (i := 62) (s_aload_n hC dX7_drives_111 rfl rfl) ?_
  refine aSims_c (i := 63) (s_get hC dX7_drives_112 rfl rfl w_853 rfl rfl inB7 (by decide)) ?_
  refine aSims_c (i := 64) (s_iload_n hC dX7_drives_115 rfl rfl) ?_
  refine aSims_c (i := 65) (s_bipush hC dX7_drives_116 rfl rfl rfl) ?_
  refine aSims_c (i := 66) (s_callS hC dX7_drives_118 rfl rfl (hE 117 _ _ _ _ rfl) (hF _ (by decide)) w_1000 w_998 w_999 w_109 (by decide +kernel)) ?_
  refine aSims_c (i := 67) (s_aload_n hC dX7_drives_121 rfl rfl) ?_
  refine aSims_c (i := 68) (s_get hC dX7_drives_122 rfl rfl w_853 rfl rfl inB7 (by decide)) ?_
  refine aSims_c (i := 69) (s_iload_n hC dX7_drives_125 rfl rfl) ?_
  refine aSims_c (i := 70) (s_bipush hC dX7_drives_126 rfl rfl rfl) ?_
  refine aSims_c (i := 71) (s_callS hC dX7_drives_128 rfl rfl (hE 117 _ _ _ _ rfl) (hF _ (by decide)) w_1000 w_998 w_999 w_109 (by decide +kernel)) ?_
  refine aSims_c (i := 72) (s_iaload hC hX0 dX7_drives_131 rfl rfl) ?_
  refine aSims_c (i := 73) (s_iconst hC dX7_drives_132 rfl rfl rfl) ?_
  refine aSims_c (i := 74) (s_iadd hC dX7_drives_133 rfl rfl) ?_
  refine aSims_c (i := 75) (s_iconst hC dX7_drives_134 rfl rfl rfl) ?_
  refine aSims_c (i := 76) (s_bipush hC dX7_drives_135 rfl rfl rfl) ?_
  refine aSims_c (i := 77) (s_callS hC dX7_drives_137 rfl rfl (hE 112 _ _ _ _ rfl) (hF _ (by decide)) w_1209 w_1207 w_1208 w_109 (by decide +kernel)) ?_
  refine aSims_c (i := 78) (s_iastore hC dX7_drives_140 rfl rfl) ?_
  refine aSims_c (i := 79) (s_vret hC dX7_drives_141 rfl hr hlk) ?_
  exact aSims_n
set_option maxHeartbeats 4000000 in
set_option maxRecDepth 20000 in
theorem sm_X7_drive (hC : aC p s m args c cX7_drive 4 RX7 D cA ad bs n0 H0 X) (hF : ∀ ml, ml ≤ 41 → aFit R d ml) (hRm : 16 ≤ R.frames ∧ 1000 ≤ R.locals) (hE : aCalls l D cA ad bs X d E) (hr : meth.sig.returnType = (some .int)) (hlk : meth.locks = false) : aSims (fun f i => aSim p l e R s m args below meth c (aEnd below s args D cA ad bs n0 z0 rv hf) 4 D cA ad bs n0 z0 H0 (apc pc_X7_drive) rv hf E f i) (cd_X7_drive) 0 := by
  unfold cd_X7_drive
  refine aSims_c (i := 0) (s_aload_n hC dX7_drive_0 rfl rfl) ?_
  refine aSims_c (i := 1) (s_iload_n hC dX7_drive_1 rfl rfl) ?_
  refine aSims_c (i := 2) (s_callV (n := 1) hC dX7_drive_2 rfl rfl (hE 115 _ _ _ _ rfl) (hF _ (by decide)) w_988 w_985 w_987 w_30 w_109 rfl (by decide +kernel)) ?_
  refine aSims_c (i := 3) (s_if_eq hC dX7_drive_5 rfl rfl rfl) ?_
  refine aSims_c (i := 4) (s_iload_n hC dX7_drive_8 rfl rfl) ?_
  refine aSims_c (i := 5) (s_callS hC dX7_drive_9 rfl rfl (hE 116 _ _ _ _ rfl) (hF _ (by decide)) w_983 w_981 w_982 w_109 (by decide +kernel)) ?_
  refine aSims_c (i := 6) (s_if_eq hC dX7_drive_12 rfl rfl rfl) ?_
  refine aSims_c (i := 7) (s_iload_n hC dX7_drive_15 rfl rfl) ?_
  refine aSims_c (i := 8) (s_i2l hC dX7_drive_16 rfl rfl) ?_
  refine aSims_c (i := 9) (s_lconst hC dX7_drive_17 rfl rfl rfl) ?_
  refine aSims_c (i := 10) (s_ldc2 hC dX7_drive_18 w_1254 rfl rfl) ?_
  refine aSims_c (i := 11) (s_callS hC dX7_drive_21 rfl rfl (hE 111 _ _ _ _ rfl) (hF _ (by decide)) w_974 w_972 w_973 w_109 (by decide +kernel)) ?_
  refine aSims_c (i := 12) (s_if_ne hC dX7_drive_24 rfl rfl rfl) ?_
  refine aSims_c (i := 13) (s_bipush hC dX7_drive_27 rfl rfl rfl) ?_
  refine aSims_c (i := 14) (s_iret hC dX7_drive_29 rfl hr hlk nar_qI) ?_
  refine aSims_c (i := 15) (s_aload_n hC dX7_drive_30 rfl rfl) ?_
  refine aSims_c (i := 16) (s_iload_n hC dX7_drive_31 rfl rfl) ?_
  refine aSims_c (i := 17) (s_iload_n hC dX7_drive_32 rfl rfl) ?_
  refine aSims_c (i := 18) (s_iload_n hC dX7_drive_33 rfl rfl) ?_
  refine aSims_c (i := 19) (s_callV (n := 3) hC dX7_drive_34 rfl rfl (hE 181 _ _ _ _ rfl) (hF _ (by decide)) w_1258 w_1255 w_1257 w_85 w_109 rfl (by decide +kernel)) ?_
  refine aSims_c (i := 20) (s_aload_n hC dX7_drive_37 rfl rfl) ?_
  refine aSims_c (i := 21) (s_get hC dX7_drive_38 rfl rfl w_853 rfl rfl inB7 (by decide)) ?_
  refine aSims_c (i := 22) (s_iload_n hC dX7_drive_41 rfl rfl) ?_
  refine aSims_c (i := 23) (s_iload_n hC dX7_drive_42 rfl rfl) ?_
  refine aSims_c (i := 24) (s_callS hC dX7_drive_43 rfl rfl (hE 117 _ _ _ _ rfl) (hF _ (by decide)) w_1000 w_998 w_999 w_109 (by decide +kernel)) ?_
  refine aSims_c (i := 25) (s_iaload hC hX0 dX7_drive_46 rfl rfl) ?_
  refine aSims_c (i := 26) (s_iret hC dX7_drive_47 rfl hr hlk nar_qI) ?_
  exact aSims_n
set_option maxHeartbeats 4000000 in
set_option maxRecDepth 20000 in
theorem sm_X7_sleeps (hC : aC p s m args c cX7_sleeps 3 RX7 D cA ad bs n0 H0 X) (hF : ∀ ml, ml ≤ 41 → aFit R d ml) (hRm : 16 ≤ R.frames ∧ 1000 ≤ R.locals) (hE : aCalls l D cA ad bs X d E) (hr : meth.sig.returnType = none) (hlk : meth.locks = false) : aSims (fun f i => aSim p l e R s m args below meth c (aEnd below s args D cA ad bs n0 z0 rv hf) 3 D cA ad bs n0 z0 H0 (apc pc_X7_sleeps) rv hf E f i) (cd_X7_sleeps) 0 := by
  unfold cd_X7_sleeps
  refine aSims_c (i := 0) (s_iconst hC dX7_sleeps_0 rfl rfl rfl) ?_
  refine aSims_c (i := 1) (s_istore_n hC dX7_sleeps_1 rfl rfl) ?_
  refine aSims_c (i := 2) (s_iload_n hC dX7_sleeps_2 rfl rfl) ?_
  refine aSims_c (i := 3) (s_bipush hC dX7_sleeps_3 rfl rfl rfl) ?_
  refine aSims_c (i := 4) (s_icmp_ge hC dX7_sleeps_5 rfl rfl rfl) ?_
  refine aSims_c (i := 5) (s_aload_n hC dX7_sleeps_8 rfl rfl) ?_
  refine aSims_c (i := 6) (s_get hC dX7_sleeps_9 rfl rfl w_853 rfl rfl inB7 (by decide)) ?_
  refine aSims_c (i := 7) (s_iload_n hC dX7_sleeps_12 rfl rfl) ?_
  refine aSims_c (i := 8) (s_iload_n hC dX7_sleeps_13 rfl rfl) ?_
  refine aSims_c (i := 9) (s_callS hC dX7_sleeps_14 rfl rfl (hE 117 _ _ _ _ rfl) (hF _ (by decide)) w_1000 w_998 w_999 w_109 (by decide +kernel)) ?_
  refine aSims_c (i := 10) (s_aload_n hC dX7_sleeps_17 rfl rfl) ?_
  refine aSims_c (i := 11) (s_get hC dX7_sleeps_18 rfl rfl w_853 rfl rfl inB7 (by decide)) ?_
  refine aSims_c (i := 12) (s_iload_n hC dX7_sleeps_21 rfl rfl) ?_
  refine aSims_c (i := 13) (s_iload_n hC dX7_sleeps_22 rfl rfl) ?_
  refine aSims_c (i := 14) (s_callS hC dX7_sleeps_23 rfl rfl (hE 117 _ _ _ _ rfl) (hF _ (by decide)) w_1000 w_998 w_999 w_109 (by decide +kernel)) ?_
  refine aSims_c (i := 15) (s_iaload hC hX0 dX7_sleeps_26 rfl rfl) ?_
  refine aSims_c (i := 16) (s_aload_n hC dX7_sleeps_27 rfl rfl) ?_
  refine aSims_c (i := 17) (s_iload_n hC dX7_sleeps_28 rfl rfl) ?_
  refine aSims_c (i := 18) (s_iload_n hC dX7_sleeps_29 rfl rfl) ?_
  refine aSims_c (i := 19) (s_callV (n := 2) hC dX7_sleeps_30 rfl rfl (hE 175 _ _ _ _ rfl) (hF _ (by decide)) w_1249 w_1246 w_1248 w_84 w_109 rfl (by decide +kernel)) ?_
  refine aSims_c (i := 20) (s_isub hC dX7_sleeps_33 rfl rfl) ?_
  refine aSims_c (i := 21) (s_iconst hC dX7_sleeps_34 rfl rfl rfl) ?_
  refine aSims_c (i := 22) (s_bipush hC dX7_sleeps_35 rfl rfl rfl) ?_
  refine aSims_c (i := 23) (s_callS hC dX7_sleeps_37 rfl rfl (hE 112 _ _ _ _ rfl) (hF _ (by decide)) w_1209 w_1207 w_1208 w_109 (by decide +kernel)) ?_
  refine aSims_c (i := 24) (s_iastore hC dX7_sleeps_40 rfl rfl) ?_
  refine aSims_c (i := 25) (s_iinc hC dX7_sleeps_41 rfl rfl) ?_
  refine aSims_c (i := 26) (s_goto hC dX7_sleeps_44 rfl rfl) ?_
  refine aSims_c (i := 27) (s_aload_n hC dX7_sleeps_47 rfl rfl) ?_
  refine aSims_c (i := 28) (s_get hC dX7_sleeps_48 rfl rfl w_853 rfl rfl inB7 (by decide)) ?_
  refine aSims_c (i := 29) (s_iload_n hC dX7_sleeps_51 rfl rfl) ?_
  refine aSims_c (i := 30) (s_bipush hC dX7_sleeps_52 rfl rfl rfl) ?_
  refine aSims_c (i := 31) (s_callS hC dX7_sleeps_54 rfl rfl (hE 117 _ _ _ _ rfl) (hF _ (by decide)) w_1000 w_998 w_999 w_109 (by decide +kernel)) ?_
  refine aSims_c (i := 32) (s_iconst hC dX7_sleeps_57 rfl rfl rfl) ?_
  refine aSims_c (i := 33) (s_iastore hC dX7_sleeps_58 rfl rfl) ?_
  refine aSims_c (i := 34) (s_vret hC dX7_sleeps_59 rfl hr hlk) ?_
  exact aSims_n
set_option maxHeartbeats 4000000 in
set_option maxRecDepth 20000 in
theorem sm_X7_readyMany (hC : aC p s m args c cX7_readyMany 3 RX7 D cA ad bs n0 H0 X) (hF : ∀ ml, ml ≤ 41 → aFit R d ml) (hRm : 16 ≤ R.frames ∧ 1000 ≤ R.locals) (hE : aCalls l D cA ad bs X d E) (hr : meth.sig.returnType = (some .int)) (hlk : meth.locks = false) : aSims (fun f i => aSim p l e R s m args below meth c (aEnd below s args D cA ad bs n0 z0 rv hf) 3 D cA ad bs n0 z0 H0 (apc pc_X7_readyMany) rv hf E f i) (cd_X7_readyMany) 0 := by
  unfold cd_X7_readyMany
  refine aSims_c (i := 0) (s_iconst hC dX7_readyMany_0 rfl rfl rfl) ?_
  refine aSims_c (i := 1) (s_istore_n hC dX7_readyMany_1 rfl rfl) ?_
  refine aSims_c (i := 2) (s_iconst hC dX7_readyMany_2 rfl rfl rfl) ?_
  refine aSims_c (i := 3) (s_istore_n hC dX7_readyMany_3 rfl rfl) ?_
  refine aSims_c (i := 4) (s_iload_n hC dX7_readyMany_4 rfl rfl) ?_
  refine aSims_c (i := 5) (s_aload_n hC dX7_readyMany_5 rfl rfl) ?_
  refine aSims_c (i := 6) (s_get hC dX7_readyMany_6 rfl rfl w_854 rfl rfl inB7 (by decide)) ?_
  refine aSims_c (i := 7) (s_icmp_ge hC dX7_readyMany_9 rfl rfl rfl) ?_
  refine aSims_c (i := 8) (s_iload_n hC dX7_readyMany_12 rfl rfl) ?_
  refine aSims_c (i := 9) (s_aload_n hC dX7_readyMany_13 rfl rfl) ?_
  refine aSims_c (i := 10) (s_iload_n hC dX7_readyMany_14 rfl rfl) ?_
  refine aSims_c (i := 11) (s_callV (n := 1) hC dX7_readyMany_15 rfl rfl (hE 179 _ _ _ _ rfl) (hF _ (by decide)) w_1213 w_1210 w_1212 w_81 w_109 rfl (by decide +kernel)) ?_
  refine aSims_c (i := 12) (s_bipush hC dX7_readyMany_18 rfl rfl rfl) ?_
  refine aSims_c (i := 13) (s_icmp_ne hC dX7_readyMany_20 rfl rfl rfl) ?_
  refine aSims_c (i := 14) (s_iconst hC dX7_readyMany_23 rfl rfl rfl) ?_
  refine aSims_c (i := 15) (s_goto hC dX7_readyMany_24 rfl rfl) ?_
  refine aSims_c (i := 16) (s_iconst hC dX7_readyMany_27 rfl rfl rfl) ?_
  refine aSims_c (i := 17) (s_iadd hC dX7_readyMany_28 rfl rfl) ?_
  refine aSims_c (i := 18) (s_istore_n hC dX7_readyMany_29 rfl rfl) ?_
  refine aSims_c (i := 19) (s_iinc hC dX7_readyMany_30 rfl rfl) ?_
  refine aSims_c (i := 20) (s_goto hC dX7_readyMany_33 rfl rfl) ?_
  refine aSims_c (i := 21) (s_iload_n hC dX7_readyMany_36 rfl rfl) ?_
  refine aSims_c (i := 22) (s_iret hC dX7_readyMany_37 rfl hr hlk nar_qI) ?_
  exact aSims_n
set_option maxHeartbeats 4000000 in
set_option maxRecDepth 20000 in
theorem sm_X7_night (hC : aC p s m args c cX7_night 2 RX7 D cA ad bs n0 H0 X) (hF : ∀ ml, ml ≤ 41 → aFit R d ml) (hRm : 16 ≤ R.frames ∧ 1000 ≤ R.locals) (hE : aCalls l D cA ad bs X d E) (hr : meth.sig.returnType = (some .int)) (hlk : meth.locks = false) : aSims (fun f i => aSim p l e R s m args below meth c (aEnd below s args D cA ad bs n0 z0 rv hf) 2 D cA ad bs n0 z0 H0 (apc pc_X7_night) rv hf E f i) (cd_X7_night) 0 := by
  unfold cd_X7_night
  refine aSims_c (i := 0) (s_aload_n hC dX7_night_0 rfl rfl) ?_
  refine aSims_c (i := 1) (s_get hC dX7_night_1 rfl rfl w_849 rfl rfl inB7 (by decide)) ?_
  refine aSims_c (i := 2) (s_sipush hC dX7_night_4 rfl rfl rfl) ?_
  refine aSims_c (i := 3) (s_icmp_ne hC dX7_night_7 rfl rfl rfl) ?_
  refine aSims_c (i := 4) (s_bipush hC dX7_night_10 rfl rfl rfl) ?_
  refine aSims_c (i := 5) (s_iret hC dX7_night_12 rfl hr hlk nar_qI) ?_
  refine aSims_c (i := 6) (s_iconst hC dX7_night_13 rfl rfl rfl) ?_
  refine aSims_c (i := 7) (s_istore_n hC dX7_night_14 rfl rfl) ?_
  refine aSims_c (i := 8) (s_iload_n hC dX7_night_15 rfl rfl) ?_
  refine aSims_c (i := 9) (s_aload_n hC dX7_night_16 rfl rfl) ?_
  refine aSims_c (i := 10) (s_get hC dX7_night_17 rfl rfl w_854 rfl rfl inB7 (by decide)) ?_
  refine aSims_c (i := 11) (s_icmp_ge hC dX7_night_20 rfl rfl rfl) ?_
  refine aSims_c (i := 12) (s_aload_n hC dX7_night_23 rfl rfl) ?_
  refine aSims_c (i := 13) (s_iload_n hC dX7_night_24 rfl rfl) ?_
  refine aSims_c (i := 14) (s_callV (n := 1) hC dX7_night_25 rfl rfl (hE 183 _ _ _ _ rfl) (hF _ (by decide)) w_1266 w_1263 w_1265 w_86 w_109 rfl (by decide +kernel)) ?_
  refine aSims_c (i := 15) (s_iinc hC dX7_night_28 rfl rfl) ?_
  refine aSims_c (i := 16) (s_goto hC dX7_night_31 rfl rfl) ?_
  refine aSims_c (i := 17) (s_aload_n hC dX7_night_34 rfl rfl) ?_
  refine aSims_c (i := 18) (s_dup hC dX7_night_35 rfl rfl) ?_
  refine aSims_c (i := 19) (s_get hC dX7_night_36 rfl rfl w_849 rfl rfl inB7 (by decide)) ?_
  refine aSims_c (i := 20) (s_iconst hC dX7_night_39 rfl rfl rfl) ?_
  refine aSims_c (i := 21) (s_iadd hC dX7_night_40 rfl rfl) ?_
  refine aSims_c (i := 22) (s_put hC dX7_night_41 rfl rfl w_849 rfl rfl inB7 tyX7_ok nmX7 (by decide) rfl) ?_
  refine aSims_c (i := 23) (s_aload_n hC dX7_night_44 rfl rfl) ?_
  refine aSims_c (i := 24) (s_callV (n := 0) hC dX7_night_45 rfl rfl (hE 184 _ _ _ _ rfl) (hF _ (by decide)) w_1270 w_1267 w_1269 w_87 w_109 rfl (by decide +kernel)) ?_
  refine aSims_c (i := 25) (s_iret hC dX7_night_48 rfl hr hlk nar_qI) ?_
  exact aSims_n
set_option maxHeartbeats 4000000 in
set_option maxRecDepth 20000 in
theorem sm_X7_laysAside (hC : aC p s m args c cX7_laysAside 3 RX7 D cA ad bs n0 H0 X) (hF : ∀ ml, ml ≤ 41 → aFit R d ml) (hRm : 16 ≤ R.frames ∧ 1000 ≤ R.locals) (hE : aCalls l D cA ad bs X d E) (hr : meth.sig.returnType = none) (hlk : meth.locks = false) : aSims (fun f i => aSim p l e R s m args below meth c (aEnd below s args D cA ad bs n0 z0 rv hf) 3 D cA ad bs n0 z0 H0 (apc pc_X7_laysAside) rv hf E f i) (cd_X7_laysAside) 0 := by
  unfold cd_X7_laysAside
  refine aSims_c (i := 0) (s_iconst hC dX7_laysAside_0 rfl rfl rfl) ?_
  refine aSims_c (i := 1) (s_istore_n hC dX7_laysAside_1 rfl rfl) ?_
  refine aSims_c (i := 2) (s_iload_n hC dX7_laysAside_2 rfl rfl) ?_
  refine aSims_c (i := 3) (s_bipush hC dX7_laysAside_3 rfl rfl rfl) ?_
  refine aSims_c (i := 4) (s_icmp_ge hC dX7_laysAside_5 rfl rfl rfl) ?_
  refine aSims_c (i := 5) (s_aload_n hC dX7_laysAside_8 rfl rfl) ?_
  refine aSims_c (i := 6) (s_get hC dX7_laysAside_9 rfl rfl w_870 rfl rfl inB7 (by decide)) ?_
  refine aSims_c (i := 7) (s_iload_n hC dX7_laysAside_12 rfl rfl) ?_
  refine aSims_c (i := 8) (s_aload_n hC dX7_laysAside_13 rfl rfl) ?_
  refine aSims_c (i := 9) (s_get hC dX7_laysAside_14 rfl rfl w_853 rfl rfl inB7 (by decide)) ?_
  refine aSims_c (i := 10) (s_iload_n hC dX7_laysAside_17 rfl rfl) ?_
  refine aSims_c (i := 11) (s_iload_n hC dX7_laysAside_18 rfl rfl) ?_
  refine aSims_c (i := 12) (s_callS hC dX7_laysAside_19 rfl rfl (hE 117 _ _ _ _ rfl) (hF _ (by decide)) w_1000 w_998 w_999 w_109 (by decide +kernel)) ?_
  refine aSims_c (i := 13) (s_iaload hC hX0 dX7_laysAside_22 rfl rfl) ?_
  refine aSims_c (i := 14) (s_iastore hC dX7_laysAside_23 rfl rfl) ?_
  refine aSims_c (i := 15) (s_iinc hC dX7_laysAside_24 rfl rfl) ?_
  refine aSims_c (i := 16) (s_goto hC dX7_laysAside_27 rfl rfl) ?_
  refine aSims_c (i := 17) (s_aload_n hC dX7_laysAside_30 rfl rfl) ?_
  refine aSims_c (i := 18) (s_aload_n hC dX7_laysAside_31 rfl rfl) ?_
  refine aSims_c (i := 19) (s_get hC dX7_laysAside_32 rfl rfl w_849 rfl rfl inB7 (by decide)) ?_
  refine aSims_c (i := 20) (s_put hC dX7_laysAside_35 rfl rfl w_871 rfl rfl inB7 tyX7_ok nmX7 (by decide) rfl) ?_
  refine aSims_c (i := 21) (s_vret hC dX7_laysAside_38 rfl hr hlk) ?_
  exact aSims_n
set_option maxHeartbeats 4000000 in
set_option maxRecDepth 20000 in
theorem sm_X7_laysBack (hC : aC p s m args c cX7_laysBack 3 RX7 D cA ad bs n0 H0 X) (hF : ∀ ml, ml ≤ 41 → aFit R d ml) (hRm : 16 ≤ R.frames ∧ 1000 ≤ R.locals) (hE : aCalls l D cA ad bs X d E) (hr : meth.sig.returnType = none) (hlk : meth.locks = false) : aSims (fun f i => aSim p l e R s m args below meth c (aEnd below s args D cA ad bs n0 z0 rv hf) 3 D cA ad bs n0 z0 H0 (apc pc_X7_laysBack) rv hf E f i) (cd_X7_laysBack) 0 := by
  unfold cd_X7_laysBack
  refine aSims_c (i := 0) (s_iconst hC dX7_laysBack_0 rfl rfl rfl) ?_
  refine aSims_c (i := 1) (s_istore_n hC dX7_laysBack_1 rfl rfl) ?_
  refine aSims_c (i := 2) (s_iload_n hC dX7_laysBack_2 rfl rfl) ?_
  refine aSims_c (i := 3) (s_bipush hC dX7_laysBack_3 rfl rfl rfl) ?_
  refine aSims_c (i := 4) (s_icmp_ge hC dX7_laysBack_5 rfl rfl rfl) ?_
  refine aSims_c (i := 5) (s_aload_n hC dX7_laysBack_8 rfl rfl) ?_
  refine aSims_c (i := 6) (s_get hC dX7_laysBack_9 rfl rfl w_853 rfl rfl inB7 (by decide)) ?_
  refine aSims_c (i := 7) (s_iload_n hC dX7_laysBack_12 rfl rfl) ?_
  refine aSims_c (i := 8) (s_iload_n hC dX7_laysBack_13 rfl rfl) ?_
  refine aSims_c (i := 9) (s_callS hC dX7_laysBack_14 rfl rfl (hE 117 _ _ _ _ rfl) (hF _ (by decide)) w_1000 w_998 w_999 w_109 (by decide +kernel)) ?_
  refine aSims_c (i := 10) (s_aload_n hC dX7_laysBack_17 rfl rfl) ?_
  refine aSims_c (i := 11) (s_get hC dX7_laysBack_18 rfl rfl w_870 rfl rfl inB7 (by decide)) ?_
  refine aSims_c (i := 12) (s_iload_n hC dX7_laysBack_21 rfl rfl) ?_
  refine aSims_c (i := 13) (s_iaload hC hX0 dX7_laysBack_22 rfl rfl) ?_
  refine aSims_c (i := 14) (s_iastore hC dX7_laysBack_23 rfl rfl) ?_
  refine aSims_c (i := 15) (s_iinc hC dX7_laysBack_24 rfl rfl) ?_
  refine aSims_c (i := 16) (s_goto hC dX7_laysBack_27 rfl rfl) ?_
  refine aSims_c (i := 17) (s_aload_n hC dX7_laysBack_30 rfl rfl) ?_
  refine aSims_c (i := 18) (s_aload_n hC dX7_laysBack_31 rfl rfl) ?_
  refine aSims_c (i := 19) (s_get hC dX7_laysBack_32 rfl rfl w_871 rfl rfl inB7 (by decide)) ?_
  refine aSims_c (i := 20) (s_put hC dX7_laysBack_35 rfl rfl w_849 rfl rfl inB7 tyX7_ok nmX7 (by decide) rfl) ?_
  refine aSims_c (i := 21) (s_vret hC dX7_laysBack_38 rfl hr hlk) ?_
  exact aSims_n
set_option maxHeartbeats 4000000 in
set_option maxRecDepth 20000 in
theorem sm_X7_skillsOf (hC : aC p s m args c cX7_skillsOf 4 RX7 D cA ad bs n0 H0 X) (hF : ∀ ml, ml ≤ 41 → aFit R d ml) (hRm : 16 ≤ R.frames ∧ 1000 ≤ R.locals) (hE : aCalls l D cA ad bs X d E) (hr : meth.sig.returnType = (some .int)) (hlk : meth.locks = false) : aSims (fun f i => aSim p l e R s m args below meth c (aEnd below s args D cA ad bs n0 z0 rv hf) 4 D cA ad bs n0 z0 H0 (apc pc_X7_skillsOf) rv hf E f i) (cd_X7_skillsOf) 0 := by
  unfold cd_X7_skillsOf
  refine aSims_c (i := 0) (s_iconst hC dX7_skillsOf_0 rfl rfl rfl) ?_
  refine aSims_c (i := 1) (s_istore_n hC dX7_skillsOf_1 rfl rfl) ?_
  refine aSims_c (i := 2) (s_iconst hC dX7_skillsOf_2 rfl rfl rfl) ?_
  refine aSims_c (i := 3) (s_istore_n hC dX7_skillsOf_3 rfl rfl) ?_
  refine aSims_c (i := 4) (s_iload_n hC dX7_skillsOf_4 rfl rfl) ?_
  refine aSims_c (i := 5) (s_bipush hC dX7_skillsOf_5 rfl rfl rfl) ?_
  refine aSims_c (i := 6) (s_icmp_ge hC dX7_skillsOf_7 rfl rfl rfl) ?_
  refine aSims_c (i := 7) (s_iload_n hC dX7_skillsOf_10 rfl rfl) ?_
  refine aSims_c (i := 8) (s_aload_n hC dX7_skillsOf_11 rfl rfl) ?_
  refine aSims_c (i := 9) (s_get hC dX7_skillsOf_12 rfl rfl w_853 rfl rfl inB7 (by decide)) ?_
  refine aSims_c (i := 10) (s_iload_n hC dX7_skillsOf_15 rfl rfl) ?_
  refine aSims_c (i := 11) (s_iload_n hC dX7_skillsOf_16 rfl rfl) ?_
  refine aSims_c (i := 12) (s_callS hC dX7_skillsOf_17 rfl rfl (hE 117 _ _ _ _ rfl) (hF _ (by decide)) w_1000 w_998 w_999 w_109 (by decide +kernel)) ?_
  refine aSims_c (i := 13) (s_iaload hC hX0 dX7_skillsOf_20 rfl rfl) ?_
  refine aSims_c (i := 14) (s_iadd hC dX7_skillsOf_21 rfl rfl) ?_
  refine aSims_c (i := 15) (s_istore_n hC dX7_skillsOf_22 rfl rfl) ?_
  refine aSims_c (i := 16) (s_iinc hC dX7_skillsOf_23 rfl rfl) ?_
  refine aSims_c (i := 17) (s_goto hC dX7_skillsOf_26 rfl rfl) ?_
  refine aSims_c (i := 18) (s_iload_n hC dX7_skillsOf_29 rfl rfl) ?_
  refine aSims_c (i := 19) (s_iret hC dX7_skillsOf_30 rfl hr hlk nar_qI) ?_
  exact aSims_n
set_option maxHeartbeats 4000000 in
set_option maxRecDepth 20000 in
theorem sm_X7_best (hC : aC p s m args c cX7_best 7 RX7 D cA ad bs n0 H0 X) (hF : ∀ ml, ml ≤ 41 → aFit R d ml) (hRm : 16 ≤ R.frames ∧ 1000 ≤ R.locals) (hE : aCalls l D cA ad bs X d E) (hr : meth.sig.returnType = (some .int)) (hlk : meth.locks = false) : aSims (fun f i => aSim p l e R s m args below meth c (aEnd below s args D cA ad bs n0 z0 rv hf) 7 D cA ad bs n0 z0 H0 (apc pc_X7_best) rv hf E f i) (cd_X7_best) 0 := by
  unfold cd_X7_best
  refine aSims_c (i := 0) (s_aload_n hC dX7_best_0 rfl rfl) ?_
  refine aSims_c (i := 1) (s_iload_n hC dX7_best_1 rfl rfl) ?_
  refine aSims_c (i := 2) (s_callV (n := 1) hC dX7_best_2 rfl rfl (hE 115 _ _ _ _ rfl) (hF _ (by decide)) w_988 w_985 w_987 w_30 w_109 rfl (by decide +kernel)) ?_
  refine aSims_c (i := 3) (s_if_eq hC dX7_best_5 rfl rfl rfl) ?_
  refine aSims_c (i := 4) (s_iload_n hC dX7_best_8 rfl rfl) ?_
  refine aSims_c (i := 5) (s_i2l hC dX7_best_9 rfl rfl) ?_
  refine aSims_c (i := 6) (s_lconst hC dX7_best_10 rfl rfl rfl) ?_
  refine aSims_c (i := 7) (s_lconst hC dX7_best_11 rfl rfl rfl) ?_
  refine aSims_c (i := 8) (s_callS hC dX7_best_12 rfl rfl (hE 111 _ _ _ _ rfl) (hF _ (by decide)) w_974 w_972 w_973 w_109 (by decide +kernel)) ?_
  refine aSims_c (i := 9) (s_if_ne hC dX7_best_15 rfl rfl rfl) ?_
  refine aSims_c (i := 10) (s_bipush hC dX7_best_18 rfl rfl rfl) ?_
  refine aSims_c (i := 11) (s_iret hC dX7_best_20 rfl hr hlk nar_qI) ?_
  refine aSims_c (i := 12) (s_iconst hC dX7_best_21 rfl rfl rfl) ?_
  refine aSims_c (i := 13) (s_istore_n hC dX7_best_22 rfl rfl) ?_
  refine aSims_c (i := 14) (s_iconst hC dX7_best_23 rfl rfl rfl) ?_
  refine aSims_c (i := 15) (s_istore hC dX7_best_24 rfl rfl) ?_
  refine aSims_c (i := 16) (s_aload_n hC dX7_best_26 rfl rfl) ?_
  refine aSims_c (i := 17) (s_iload_n hC dX7_best_27 rfl rfl) ?_
  refine aSims_c (i := 18) (s_callV (n := 1) hC dX7_best_28 rfl rfl (hE 186 _ _ _ _ rfl) (hF _ (by decide)) w_1278 w_1275 w_1277 w_88 w_109 rfl (by decide +kernel)) ?_
  refine aSims_c (i := 19) (s_iconst hC dX7_best_31 rfl rfl rfl) ?_
  refine aSims_c (i := 20) (s_istore hC dX7_best_32 rfl rfl) ?_
  refine aSims_c (i := 21) (s_iload hC dX7_best_34 rfl rfl) ?_
  refine aSims_c (i := 22) (s_bipush hC dX7_best_36 rfl rfl rfl) ?_
  refine aSims_c (i := 23) (s_icmp_ge hC dX7_best_38 rfl rfl rfl) ?_
  refine aSims_c (i := 24) (s_aload_n hC dX7_best_41 rfl rfl) ?_
  refine aSims_c (i := 25) (s_iload_n hC dX7_best_42 rfl rfl) ?_
  refine aSims_c (i := 26) (s_iload hC dX7_best_43 rfl rfl) ?_
  refine aSims_c (i := 27) (s_iconst hC dX7_best_45 rfl rfl rfl) ?_
  refine aSims_c (i := 28) (s_idiv hC dX7_best_46 rfl rfl) ?_
  refine aSims_c (i := 29) (s_iload hC dX7_best_47 rfl rfl) ?_
  refine aSims_c (i := 30) (s_iconst hC dX7_best_49 rfl rfl rfl) ?_
  refine aSims_c (i := 31) (s_irem hC dX7_best_50 rfl rfl) ?_
  refine aSims_c (i := 32) (s_callV (n := 3) hC dX7_best_51 rfl rfl (hE 181 _ _ _ _ rfl) (hF _ (by decide)) w_1258 w_1255 w_1257 w_85 w_109 rfl (by decide +kernel)) ?_
  refine aSims_c (i := 33) (s_aload_n hC dX7_best_54 rfl rfl) ?_
  refine aSims_c (i := 34) (s_iload_n hC dX7_best_55 rfl rfl) ?_
  refine aSims_c (i := 35) (s_callV (n := 1) hC dX7_best_56 rfl rfl (hE 188 _ _ _ _ rfl) (hF _ (by decide)) w_1282 w_1279 w_1281 w_89 w_109 rfl (by decide +kernel)) ?_
  refine aSims_c (i := 36) (s_istore hC dX7_best_59 rfl rfl) ?_
  refine aSims_c (i := 37) (s_aload_n hC dX7_best_61 rfl rfl) ?_
  refine aSims_c (i := 38) (s_iload_n hC dX7_best_62 rfl rfl) ?_
  refine aSims_c (i := 39) (s_callV (n := 1) hC dX7_best_63 rfl rfl (hE 187 _ _ _ _ rfl) (hF _ (by decide)) w_1286 w_1283 w_1285 w_90 w_109 rfl (by decide +kernel)) ?_
  refine aSims_c (i := 40) (s_iload hC dX7_best_66 rfl rfl) ?_
  refine aSims_c (i := 41) (s_iload hC dX7_best_68 rfl rfl) ?_
  refine aSims_c (i := 42) (s_icmp_le hC dX7_best_70 rfl rfl rfl) ?_
  refine aSims_c (i := 43) (s_bipush hC dX7_best_73 rfl rfl rfl) ?_
  refine aSims_c (i := 44) (s_iload hC dX7_best_75 rfl rfl) ?_
  refine aSims_c (i := 45) (s_iconst hC dX7_best_77 rfl rfl rfl) ?_
  refine aSims_c (i := 46) (s_idiv hC dX7_best_78 rfl rfl) ?_
  refine aSims_c (i := 47) (s_imul hC dX7_best_79 rfl rfl) ?_
  refine aSims_c (i := 48) (s_iload hC dX7_best_80 rfl rfl) ?_
  refine aSims_c (i := 49) (s_iconst hC dX7_best_82 rfl rfl rfl) ?_
  refine aSims_c (i := 50) (s_irem hC dX7_best_83 rfl rfl) ?_
  refine aSims_c (i := 51) (s_iadd hC dX7_best_84 rfl rfl) ?_
  refine aSims_c (i := 52) (s_istore_n hC dX7_best_85 rfl rfl) ?_
  refine aSims_c (i := 53) (s_iload hC dX7_best_86 rfl rfl) ?_
  refine aSims_c (i := 54) (s_istore hC dX7_best_88 rfl rfl) ?_
  refine aSims_c (i := 55) (s_iinc hC dX7_best_90 rfl rfl) ?_
  refine aSims_c (i := 56) (s_goto hC dX7_best_93 rfl rfl) ?_
  refine aSims_c (i := 57) (s_iload_n hC dX7_best_96 rfl rfl) ?_
  refine aSims_c (i := 58) (s_if_ne hC dX7_best_97 rfl rfl rfl) ?_
  refine aSims_c (i := 59) (s_iload_n hC dX7_best_100 rfl rfl) ?_
  refine aSims_c (i := 60) (s_goto hC dX7_best_101 rfl rfl) ?_
  refine aSims_c (i := 61) (s_iload hC dX7_best_104 rfl rfl) ?_
  refine aSims_c (i := 62) (s_iret hC dX7_best_106 rfl hr hlk nar_qI) ?_
  exact aSims_n
end SIM
