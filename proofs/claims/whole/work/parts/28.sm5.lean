/-! each method's instructions are simulated (written by wip/whole/gen.py) -/
theorem dX7_name_0 : decode cX7_name 0 = .ok (.aload_n 0, 1) := by decide +kernel
theorem dX7_name_1 : decode cX7_name 1 = .ok (.bipush 115, 2) := by decide +kernel
theorem dX7_name_3 : decode cX7_name 3 = .ok (.bipush 107, 2) := by decide +kernel
theorem dX7_name_5 : decode cX7_name 5 = .ok (.bipush 105, 2) := by decide +kernel
theorem dX7_name_7 : decode cX7_name 7 = .ok (.bipush 108, 2) := by decide +kernel
theorem dX7_name_9 : decode cX7_name 9 = .ok (.bipush 108, 2) := by decide +kernel
theorem dX7_name_11 : decode cX7_name 11 = .ok (.iconst 0, 1) := by decide +kernel
theorem dX7_name_12 : decode cX7_name 12 = .ok (.iconst 0, 1) := by decide +kernel
theorem dX7_name_13 : decode cX7_name 13 = .ok (.iconst 0, 1) := by decide +kernel
theorem dX7_name_14 : decode cX7_name 14 = .ok (.invokevirtual 188, 3) := by decide +kernel
theorem dX7_name_17 : decode cX7_name 17 = .ok (.ifCond .eq 8, 3) := by decide +kernel
theorem dX7_name_20 : decode cX7_name 20 = .ok (.aload_n 0, 1) := by decide +kernel
theorem dX7_name_21 : decode cX7_name 21 = .ok (.getfield 192, 3) := by decide +kernel
theorem dX7_name_24 : decode cX7_name 24 = .ok (.ireturn, 1) := by decide +kernel
theorem dX7_name_25 : decode cX7_name 25 = .ok (.aload_n 0, 1) := by decide +kernel
theorem dX7_name_26 : decode cX7_name 26 = .ok (.bipush 104, 2) := by decide +kernel
theorem dX7_name_28 : decode cX7_name 28 = .ok (.bipush 97, 2) := by decide +kernel
theorem dX7_name_30 : decode cX7_name 30 = .ok (.bipush 114, 2) := by decide +kernel
theorem dX7_name_32 : decode cX7_name 32 = .ok (.bipush 100, 2) := by decide +kernel
theorem dX7_name_34 : decode cX7_name 34 = .ok (.iconst 0, 1) := by decide +kernel
theorem dX7_name_35 : decode cX7_name 35 = .ok (.iconst 0, 1) := by decide +kernel
theorem dX7_name_36 : decode cX7_name 36 = .ok (.iconst 0, 1) := by decide +kernel
theorem dX7_name_37 : decode cX7_name 37 = .ok (.iconst 0, 1) := by decide +kernel
theorem dX7_name_38 : decode cX7_name 38 = .ok (.invokevirtual 188, 3) := by decide +kernel
theorem dX7_name_41 : decode cX7_name 41 = .ok (.ifCond .eq 8, 3) := by decide +kernel
theorem dX7_name_44 : decode cX7_name 44 = .ok (.aload_n 0, 1) := by decide +kernel
theorem dX7_name_45 : decode cX7_name 45 = .ok (.getfield 195, 3) := by decide +kernel
theorem dX7_name_48 : decode cX7_name 48 = .ok (.ireturn, 1) := by decide +kernel
theorem dX7_name_49 : decode cX7_name 49 = .ok (.aload_n 0, 1) := by decide +kernel
theorem dX7_name_50 : decode cX7_name 50 = .ok (.bipush 104, 2) := by decide +kernel
theorem dX7_name_52 : decode cX7_name 52 = .ok (.bipush 101, 2) := by decide +kernel
theorem dX7_name_54 : decode cX7_name 54 = .ok (.bipush 108, 2) := by decide +kernel
theorem dX7_name_56 : decode cX7_name 56 = .ok (.bipush 112, 2) := by decide +kernel
theorem dX7_name_58 : decode cX7_name 58 = .ok (.iconst 0, 1) := by decide +kernel
theorem dX7_name_59 : decode cX7_name 59 = .ok (.iconst 0, 1) := by decide +kernel
theorem dX7_name_60 : decode cX7_name 60 = .ok (.iconst 0, 1) := by decide +kernel
theorem dX7_name_61 : decode cX7_name 61 = .ok (.iconst 0, 1) := by decide +kernel
theorem dX7_name_62 : decode cX7_name 62 = .ok (.invokevirtual 188, 3) := by decide +kernel
theorem dX7_name_65 : decode cX7_name 65 = .ok (.ifCond .eq 8, 3) := by decide +kernel
theorem dX7_name_68 : decode cX7_name 68 = .ok (.aload_n 0, 1) := by decide +kernel
theorem dX7_name_69 : decode cX7_name 69 = .ok (.getfield 198, 3) := by decide +kernel
theorem dX7_name_72 : decode cX7_name 72 = .ok (.ireturn, 1) := by decide +kernel
theorem dX7_name_73 : decode cX7_name 73 = .ok (.aload_n 0, 1) := by decide +kernel
theorem dX7_name_74 : decode cX7_name 74 = .ok (.bipush 110, 2) := by decide +kernel
theorem dX7_name_76 : decode cX7_name 76 = .ok (.bipush 117, 2) := by decide +kernel
theorem dX7_name_78 : decode cX7_name 78 = .ok (.bipush 109, 2) := by decide +kernel
theorem dX7_name_80 : decode cX7_name 80 = .ok (.bipush 98, 2) := by decide +kernel
theorem dX7_name_82 : decode cX7_name 82 = .ok (.bipush 101, 2) := by decide +kernel
theorem dX7_name_84 : decode cX7_name 84 = .ok (.bipush 114, 2) := by decide +kernel
theorem dX7_name_86 : decode cX7_name 86 = .ok (.iconst 0, 1) := by decide +kernel
theorem dX7_name_87 : decode cX7_name 87 = .ok (.iconst 0, 1) := by decide +kernel
theorem dX7_name_88 : decode cX7_name 88 = .ok (.invokevirtual 188, 3) := by decide +kernel
theorem dX7_name_91 : decode cX7_name 91 = .ok (.ifCond .eq 8, 3) := by decide +kernel
theorem dX7_name_94 : decode cX7_name 94 = .ok (.aload_n 0, 1) := by decide +kernel
theorem dX7_name_95 : decode cX7_name 95 = .ok (.getfield 201, 3) := by decide +kernel
theorem dX7_name_98 : decode cX7_name 98 = .ok (.ireturn, 1) := by decide +kernel
theorem dX7_name_99 : decode cX7_name 99 = .ok (.aload_n 0, 1) := by decide +kernel
theorem dX7_name_100 : decode cX7_name 100 = .ok (.bipush 100, 2) := by decide +kernel
theorem dX7_name_102 : decode cX7_name 102 = .ok (.bipush 97, 2) := by decide +kernel
theorem dX7_name_104 : decode cX7_name 104 = .ok (.bipush 121, 2) := by decide +kernel
theorem dX7_name_106 : decode cX7_name 106 = .ok (.iconst 0, 1) := by decide +kernel
theorem dX7_name_107 : decode cX7_name 107 = .ok (.iconst 0, 1) := by decide +kernel
theorem dX7_name_108 : decode cX7_name 108 = .ok (.iconst 0, 1) := by decide +kernel
theorem dX7_name_109 : decode cX7_name 109 = .ok (.iconst 0, 1) := by decide +kernel
theorem dX7_name_110 : decode cX7_name 110 = .ok (.iconst 0, 1) := by decide +kernel
theorem dX7_name_111 : decode cX7_name 111 = .ok (.invokevirtual 188, 3) := by decide +kernel
theorem dX7_name_114 : decode cX7_name 114 = .ok (.ifCond .eq 8, 3) := by decide +kernel
theorem dX7_name_117 : decode cX7_name 117 = .ok (.aload_n 0, 1) := by decide +kernel
theorem dX7_name_118 : decode cX7_name 118 = .ok (.getfield 204, 3) := by decide +kernel
theorem dX7_name_121 : decode cX7_name 121 = .ok (.ireturn, 1) := by decide +kernel
theorem dX7_name_122 : decode cX7_name 122 = .ok (.aload_n 0, 1) := by decide +kernel
theorem dX7_name_123 : decode cX7_name 123 = .ok (.bipush 100, 2) := by decide +kernel
theorem dX7_name_125 : decode cX7_name 125 = .ok (.bipush 111, 2) := by decide +kernel
theorem dX7_name_127 : decode cX7_name 127 = .ok (.bipush 110, 2) := by decide +kernel
theorem dX7_name_129 : decode cX7_name 129 = .ok (.bipush 101, 2) := by decide +kernel
theorem dX7_name_131 : decode cX7_name 131 = .ok (.iconst 0, 1) := by decide +kernel
theorem dX7_name_132 : decode cX7_name 132 = .ok (.iconst 0, 1) := by decide +kernel
theorem dX7_name_133 : decode cX7_name 133 = .ok (.iconst 0, 1) := by decide +kernel
theorem dX7_name_134 : decode cX7_name 134 = .ok (.iconst 0, 1) := by decide +kernel
theorem dX7_name_135 : decode cX7_name 135 = .ok (.invokevirtual 188, 3) := by decide +kernel
theorem dX7_name_138 : decode cX7_name 138 = .ok (.ifCond .eq 8, 3) := by decide +kernel
theorem dX7_name_141 : decode cX7_name 141 = .ok (.aload_n 0, 1) := by decide +kernel
theorem dX7_name_142 : decode cX7_name 142 = .ok (.getfield 207, 3) := by decide +kernel
theorem dX7_name_145 : decode cX7_name 145 = .ok (.ireturn, 1) := by decide +kernel
theorem dX7_name_146 : decode cX7_name 146 = .ok (.aload_n 0, 1) := by decide +kernel
theorem dX7_name_147 : decode cX7_name 147 = .ok (.invokevirtual 182, 3) := by decide +kernel
theorem dX7_name_150 : decode cX7_name 150 = .ok (.iconst 0, 1) := by decide +kernel
theorem dX7_name_151 : decode cX7_name 151 = .ok (.ireturn, 1) := by decide +kernel
theorem dX7_atom5_0 : decode cX7_atom5 0 = .ok (.iconst 0, 1) := by decide +kernel
theorem dX7_atom5_1 : decode cX7_atom5 1 = .ok (.istore_n 1, 1) := by decide +kernel
theorem dX7_atom5_2 : decode cX7_atom5 2 = .ok (.aload_n 0, 1) := by decide +kernel
theorem dX7_atom5_3 : decode cX7_atom5 3 = .ok (.bipush 45, 2) := by decide +kernel
theorem dX7_atom5_5 : decode cX7_atom5 5 = .ok (.invokevirtual 210, 3) := by decide +kernel
theorem dX7_atom5_8 : decode cX7_atom5 8 = .ok (.ifCond .eq 11, 3) := by decide +kernel
theorem dX7_atom5_11 : decode cX7_atom5 11 = .ok (.aload_n 0, 1) := by decide +kernel
theorem dX7_atom5_12 : decode cX7_atom5 12 = .ok (.invokevirtual 213, 3) := by decide +kernel
theorem dX7_atom5_15 : decode cX7_atom5 15 = .ok (.pop, 1) := by decide +kernel
theorem dX7_atom5_16 : decode cX7_atom5 16 = .ok (.goto 86, 3) := by decide +kernel
theorem dX7_atom5_19 : decode cX7_atom5 19 = .ok (.aload_n 0, 1) := by decide +kernel
theorem dX7_atom5_20 : decode cX7_atom5 20 = .ok (.bipush 40, 2) := by decide +kernel
theorem dX7_atom5_22 : decode cX7_atom5 22 = .ok (.invokevirtual 210, 3) := by decide +kernel
theorem dX7_atom5_25 : decode cX7_atom5 25 = .ok (.ifCond .eq 11, 3) := by decide +kernel
theorem dX7_atom5_28 : decode cX7_atom5 28 = .ok (.aload_n 0, 1) := by decide +kernel
theorem dX7_atom5_29 : decode cX7_atom5 29 = .ok (.invokevirtual 213, 3) := by decide +kernel
theorem dX7_atom5_32 : decode cX7_atom5 32 = .ok (.pop, 1) := by decide +kernel
theorem dX7_atom5_33 : decode cX7_atom5 33 = .ok (.goto 69, 3) := by decide +kernel
theorem dX7_atom5_36 : decode cX7_atom5 36 = .ok (.aload_n 0, 1) := by decide +kernel
theorem dX7_atom5_37 : decode cX7_atom5 37 = .ok (.getfield 169, 3) := by decide +kernel
theorem dX7_atom5_40 : decode cX7_atom5 40 = .ok (.ifCond .ne 24, 3) := by decide +kernel
theorem dX7_atom5_43 : decode cX7_atom5 43 = .ok (.aload_n 0, 1) := by decide +kernel
theorem dX7_atom5_44 : decode cX7_atom5 44 = .ok (.getfield 154, 3) := by decide +kernel
theorem dX7_atom5_47 : decode cX7_atom5 47 = .ok (.iconst 2, 1) := by decide +kernel
theorem dX7_atom5_48 : decode cX7_atom5 48 = .ok (.if_icmp .ne 16, 3) := by decide +kernel
theorem dX7_atom5_51 : decode cX7_atom5 51 = .ok (.aload_n 0, 1) := by decide +kernel
theorem dX7_atom5_52 : decode cX7_atom5 52 = .ok (.getfield 165, 3) := by decide +kernel
theorem dX7_atom5_55 : decode cX7_atom5 55 = .ok (.l2i, 1) := by decide +kernel
theorem dX7_atom5_56 : decode cX7_atom5 56 = .ok (.istore_n 1, 1) := by decide +kernel
theorem dX7_atom5_57 : decode cX7_atom5 57 = .ok (.aload_n 0, 1) := by decide +kernel
theorem dX7_atom5_58 : decode cX7_atom5 58 = .ok (.invokevirtual 185, 3) := by decide +kernel
theorem dX7_atom5_61 : decode cX7_atom5 61 = .ok (.goto 41, 3) := by decide +kernel
theorem dX7_atom5_64 : decode cX7_atom5 64 = .ok (.aload_n 0, 1) := by decide +kernel
theorem dX7_atom5_65 : decode cX7_atom5 65 = .ok (.getfield 169, 3) := by decide +kernel
theorem dX7_atom5_68 : decode cX7_atom5 68 = .ok (.ifCond .ne 30, 3) := by decide +kernel
theorem dX7_atom5_71 : decode cX7_atom5 71 = .ok (.aload_n 0, 1) := by decide +kernel
theorem dX7_atom5_72 : decode cX7_atom5 72 = .ok (.getfield 154, 3) := by decide +kernel
theorem dX7_atom5_75 : decode cX7_atom5 75 = .ok (.iconst 1, 1) := by decide +kernel
theorem dX7_atom5_76 : decode cX7_atom5 76 = .ok (.if_icmp .ne 22, 3) := by decide +kernel
theorem dX7_atom5_79 : decode cX7_atom5 79 = .ok (.aload_n 0, 1) := by decide +kernel
theorem dX7_atom5_80 : decode cX7_atom5 80 = .ok (.invokevirtual 217, 3) := by decide +kernel
theorem dX7_atom5_83 : decode cX7_atom5 83 = .ok (.istore_n 1, 1) := by decide +kernel
theorem dX7_atom5_84 : decode cX7_atom5 84 = .ok (.aload_n 0, 1) := by decide +kernel
theorem dX7_atom5_85 : decode cX7_atom5 85 = .ok (.getfield 169, 3) := by decide +kernel
theorem dX7_atom5_88 : decode cX7_atom5 88 = .ok (.ifCond .ne 14, 3) := by decide +kernel
theorem dX7_atom5_91 : decode cX7_atom5 91 = .ok (.aload_n 0, 1) := by decide +kernel
theorem dX7_atom5_92 : decode cX7_atom5 92 = .ok (.invokevirtual 185, 3) := by decide +kernel
theorem dX7_atom5_95 : decode cX7_atom5 95 = .ok (.goto 7, 3) := by decide +kernel
theorem dX7_atom5_98 : decode cX7_atom5 98 = .ok (.aload_n 0, 1) := by decide +kernel
theorem dX7_atom5_99 : decode cX7_atom5 99 = .ok (.invokevirtual 182, 3) := by decide +kernel
theorem dX7_atom5_102 : decode cX7_atom5 102 = .ok (.iload_n 1, 1) := by decide +kernel
theorem dX7_atom5_103 : decode cX7_atom5 103 = .ok (.ireturn, 1) := by decide +kernel
theorem dX7_term5_0 : decode cX7_term5 0 = .ok (.aload_n 0, 1) := by decide +kernel
theorem dX7_term5_1 : decode cX7_term5 1 = .ok (.invokevirtual 221, 3) := by decide +kernel
theorem dX7_term5_4 : decode cX7_term5 4 = .ok (.istore_n 1, 1) := by decide +kernel
theorem dX7_term5_5 : decode cX7_term5 5 = .ok (.aload_n 0, 1) := by decide +kernel
theorem dX7_term5_6 : decode cX7_term5 6 = .ok (.bipush 42, 2) := by decide +kernel
theorem dX7_term5_8 : decode cX7_term5 8 = .ok (.invokevirtual 210, 3) := by decide +kernel
theorem dX7_term5_11 : decode cX7_term5 11 = .ok (.ifCond .eq 17, 3) := by decide +kernel
theorem dX7_term5_14 : decode cX7_term5 14 = .ok (.aload_n 0, 1) := by decide +kernel
theorem dX7_term5_15 : decode cX7_term5 15 = .ok (.invokevirtual 185, 3) := by decide +kernel
theorem dX7_term5_18 : decode cX7_term5 18 = .ok (.iload_n 1, 1) := by decide +kernel
theorem dX7_term5_19 : decode cX7_term5 19 = .ok (.aload_n 0, 1) := by decide +kernel
theorem dX7_term5_20 : decode cX7_term5 20 = .ok (.invokevirtual 221, 3) := by decide +kernel
theorem dX7_term5_23 : decode cX7_term5 23 = .ok (.imul, 1) := by decide +kernel
theorem dX7_term5_24 : decode cX7_term5 24 = .ok (.istore_n 1, 1) := by decide +kernel
theorem dX7_term5_25 : decode cX7_term5 25 = .ok (.goto (-20), 3) := by decide +kernel
theorem dX7_term5_28 : decode cX7_term5 28 = .ok (.iload_n 1, 1) := by decide +kernel
theorem dX7_term5_29 : decode cX7_term5 29 = .ok (.ireturn, 1) := by decide +kernel
theorem dX7_added5_0 : decode cX7_added5 0 = .ok (.aload_n 0, 1) := by decide +kernel
theorem dX7_added5_1 : decode cX7_added5 1 = .ok (.invokevirtual 224, 3) := by decide +kernel
theorem dX7_added5_4 : decode cX7_added5 4 = .ok (.istore_n 1, 1) := by decide +kernel
theorem dX7_added5_5 : decode cX7_added5 5 = .ok (.aload_n 0, 1) := by decide +kernel
theorem dX7_added5_6 : decode cX7_added5 6 = .ok (.bipush 43, 2) := by decide +kernel
theorem dX7_added5_8 : decode cX7_added5 8 = .ok (.invokevirtual 210, 3) := by decide +kernel
theorem dX7_added5_11 : decode cX7_added5 11 = .ok (.ifCond .ne 12, 3) := by decide +kernel
theorem dX7_added5_14 : decode cX7_added5 14 = .ok (.aload_n 0, 1) := by decide +kernel
theorem dX7_added5_15 : decode cX7_added5 15 = .ok (.bipush 45, 2) := by decide +kernel
theorem dX7_added5_17 : decode cX7_added5 17 = .ok (.invokevirtual 210, 3) := by decide +kernel
theorem dX7_added5_20 : decode cX7_added5 20 = .ok (.ifCond .eq 46, 3) := by decide +kernel
theorem dX7_added5_23 : decode cX7_added5 23 = .ok (.aload_n 0, 1) := by decide +kernel
theorem dX7_added5_24 : decode cX7_added5 24 = .ok (.getfield 165, 3) := by decide +kernel
theorem dX7_added5_27 : decode cX7_added5 27 = .ok (.ldc2_w 227, 3) := by decide +kernel
theorem dX7_added5_30 : decode cX7_added5 30 = .ok (.lcmp, 1) := by decide +kernel
theorem dX7_added5_31 : decode cX7_added5 31 = .ok (.ifCond .ne 7, 3) := by decide +kernel
theorem dX7_added5_34 : decode cX7_added5 34 = .ok (.iconst 1, 1) := by decide +kernel
theorem dX7_added5_35 : decode cX7_added5 35 = .ok (.goto 4, 3) := by decide +kernel
theorem dX7_added5_38 : decode cX7_added5 38 = .ok (.iconst 0, 1) := by decide +kernel
theorem dX7_added5_39 : decode cX7_added5 39 = .ok (.istore_n 2, 1) := by decide +kernel
theorem dX7_added5_40 : decode cX7_added5 40 = .ok (.aload_n 0, 1) := by decide +kernel
theorem dX7_added5_41 : decode cX7_added5 41 = .ok (.invokevirtual 185, 3) := by decide +kernel
theorem dX7_added5_44 : decode cX7_added5 44 = .ok (.aload_n 0, 1) := by decide +kernel
theorem dX7_added5_45 : decode cX7_added5 45 = .ok (.invokevirtual 224, 3) := by decide +kernel
theorem dX7_added5_48 : decode cX7_added5 48 = .ok (.istore_n 3, 1) := by decide +kernel
theorem dX7_added5_49 : decode cX7_added5 49 = .ok (.iload_n 2, 1) := by decide +kernel
theorem dX7_added5_50 : decode cX7_added5 50 = .ok (.ifCond .eq 9, 3) := by decide +kernel
theorem dX7_added5_53 : decode cX7_added5 53 = .ok (.iload_n 1, 1) := by decide +kernel
theorem dX7_added5_54 : decode cX7_added5 54 = .ok (.iload_n 3, 1) := by decide +kernel
theorem dX7_added5_55 : decode cX7_added5 55 = .ok (.iadd, 1) := by decide +kernel
theorem dX7_added5_56 : decode cX7_added5 56 = .ok (.goto 6, 3) := by decide +kernel
theorem dX7_added5_59 : decode cX7_added5 59 = .ok (.iload_n 1, 1) := by decide +kernel
theorem dX7_added5_60 : decode cX7_added5 60 = .ok (.iload_n 3, 1) := by decide +kernel
theorem dX7_added5_61 : decode cX7_added5 61 = .ok (.isub, 1) := by decide +kernel
theorem dX7_added5_62 : decode cX7_added5 62 = .ok (.istore_n 1, 1) := by decide +kernel
theorem dX7_added5_63 : decode cX7_added5 63 = .ok (.goto (-58), 3) := by decide +kernel
theorem dX7_added5_66 : decode cX7_added5 66 = .ok (.iload_n 1, 1) := by decide +kernel
theorem dX7_added5_67 : decode cX7_added5 67 = .ok (.ireturn, 1) := by decide +kernel
theorem dX7_not5_0 : decode cX7_not5 0 = .ok (.aload_n 0, 1) := by decide +kernel
theorem dX7_not5_1 : decode cX7_not5 1 = .ok (.bipush 110, 2) := by decide +kernel
theorem dX7_not5_3 : decode cX7_not5 3 = .ok (.bipush 111, 2) := by decide +kernel
theorem dX7_not5_5 : decode cX7_not5 5 = .ok (.bipush 116, 2) := by decide +kernel
theorem dX7_not5_7 : decode cX7_not5 7 = .ok (.iconst 0, 1) := by decide +kernel
theorem dX7_not5_8 : decode cX7_not5 8 = .ok (.iconst 0, 1) := by decide +kernel
theorem dX7_not5_9 : decode cX7_not5 9 = .ok (.iconst 0, 1) := by decide +kernel
theorem dX7_not5_10 : decode cX7_not5 10 = .ok (.iconst 0, 1) := by decide +kernel
theorem dX7_not5_11 : decode cX7_not5 11 = .ok (.iconst 0, 1) := by decide +kernel
theorem dX7_not5_12 : decode cX7_not5 12 = .ok (.invokevirtual 188, 3) := by decide +kernel
theorem dX7_not5_15 : decode cX7_not5 15 = .ok (.ifCond .eq 10, 3) := by decide +kernel
theorem dX7_not5_18 : decode cX7_not5 18 = .ok (.aload_n 0, 1) := by decide +kernel
theorem dX7_not5_19 : decode cX7_not5 19 = .ok (.invokevirtual 213, 3) := by decide +kernel
theorem dX7_not5_22 : decode cX7_not5 22 = .ok (.pop, 1) := by decide +kernel
theorem dX7_not5_23 : decode cX7_not5 23 = .ok (.iconst 0, 1) := by decide +kernel
theorem dX7_not5_24 : decode cX7_not5 24 = .ok (.ireturn, 1) := by decide +kernel
theorem dX7_not5_25 : decode cX7_not5 25 = .ok (.aload_n 0, 1) := by decide +kernel
theorem dX7_not5_26 : decode cX7_not5 26 = .ok (.invokevirtual 229, 3) := by decide +kernel
theorem dX7_not5_29 : decode cX7_not5 29 = .ok (.istore_n 1, 1) := by decide +kernel
theorem dX7_not5_30 : decode cX7_not5 30 = .ok (.aload_n 0, 1) := by decide +kernel
theorem dX7_not5_31 : decode cX7_not5 31 = .ok (.bipush 60, 2) := by decide +kernel
theorem dX7_not5_33 : decode cX7_not5 33 = .ok (.invokevirtual 210, 3) := by decide +kernel
theorem dX7_not5_36 : decode cX7_not5 36 = .ok (.ifCond .ne 14, 3) := by decide +kernel
theorem dX7_not5_39 : decode cX7_not5 39 = .ok (.aload_n 0, 1) := by decide +kernel
theorem dX7_not5_40 : decode cX7_not5 40 = .ok (.bipush 61, 2) := by decide +kernel
theorem dX7_not5_42 : decode cX7_not5 42 = .ok (.invokevirtual 210, 3) := by decide +kernel
theorem dX7_not5_45 : decode cX7_not5 45 = .ok (.ifCond .ne 5, 3) := by decide +kernel
theorem dX7_not5_48 : decode cX7_not5 48 = .ok (.iload_n 1, 1) := by decide +kernel
theorem dX7_not5_49 : decode cX7_not5 49 = .ok (.ireturn, 1) := by decide +kernel
theorem dX7_not5_50 : decode cX7_not5 50 = .ok (.aload_n 0, 1) := by decide +kernel
theorem dX7_not5_51 : decode cX7_not5 51 = .ok (.getfield 165, 3) := by decide +kernel
theorem dX7_not5_54 : decode cX7_not5 54 = .ok (.ldc2_w 232, 3) := by decide +kernel
theorem dX7_not5_57 : decode cX7_not5 57 = .ok (.lcmp, 1) := by decide +kernel
theorem dX7_not5_58 : decode cX7_not5 58 = .ok (.ifCond .ne 7, 3) := by decide +kernel
theorem dX7_not5_61 : decode cX7_not5 61 = .ok (.iconst 1, 1) := by decide +kernel
theorem dX7_not5_62 : decode cX7_not5 62 = .ok (.goto 4, 3) := by decide +kernel
theorem dX7_not5_65 : decode cX7_not5 65 = .ok (.iconst 0, 1) := by decide +kernel
theorem dX7_not5_66 : decode cX7_not5 66 = .ok (.istore_n 2, 1) := by decide +kernel
theorem dX7_not5_67 : decode cX7_not5 67 = .ok (.aload_n 0, 1) := by decide +kernel
theorem dX7_not5_68 : decode cX7_not5 68 = .ok (.invokevirtual 185, 3) := by decide +kernel
theorem dX7_not5_71 : decode cX7_not5 71 = .ok (.aload_n 0, 1) := by decide +kernel
theorem dX7_not5_72 : decode cX7_not5 72 = .ok (.invokevirtual 229, 3) := by decide +kernel
theorem dX7_not5_75 : decode cX7_not5 75 = .ok (.istore_n 3, 1) := by decide +kernel
theorem dX7_not5_76 : decode cX7_not5 76 = .ok (.iload_n 2, 1) := by decide +kernel
theorem dX7_not5_77 : decode cX7_not5 77 = .ok (.ifCond .eq 11, 3) := by decide +kernel
theorem dX7_not5_80 : decode cX7_not5 80 = .ok (.iload_n 1, 1) := by decide +kernel
theorem dX7_not5_81 : decode cX7_not5 81 = .ok (.iload_n 3, 1) := by decide +kernel
theorem dX7_not5_82 : decode cX7_not5 82 = .ok (.if_icmp .ge 15, 3) := by decide +kernel
theorem dX7_not5_85 : decode cX7_not5 85 = .ok (.goto 8, 3) := by decide +kernel
theorem dX7_not5_88 : decode cX7_not5 88 = .ok (.iload_n 1, 1) := by decide +kernel
theorem dX7_not5_89 : decode cX7_not5 89 = .ok (.iload_n 3, 1) := by decide +kernel
theorem dX7_not5_90 : decode cX7_not5 90 = .ok (.if_icmp .ne 7, 3) := by decide +kernel
theorem dX7_not5_93 : decode cX7_not5 93 = .ok (.iconst 1, 1) := by decide +kernel
theorem dX7_not5_94 : decode cX7_not5 94 = .ok (.goto 4, 3) := by decide +kernel
theorem dX7_not5_97 : decode cX7_not5 97 = .ok (.iconst 0, 1) := by decide +kernel
theorem dX7_not5_98 : decode cX7_not5 98 = .ok (.ireturn, 1) := by decide +kernel
theorem dX7_both5_0 : decode cX7_both5 0 = .ok (.aload_n 0, 1) := by decide +kernel
theorem dX7_both5_1 : decode cX7_both5 1 = .ok (.invokevirtual 234, 3) := by decide +kernel
theorem dX7_both5_4 : decode cX7_both5 4 = .ok (.istore_n 1, 1) := by decide +kernel
theorem dX7_both5_5 : decode cX7_both5 5 = .ok (.aload_n 0, 1) := by decide +kernel
theorem dX7_both5_6 : decode cX7_both5 6 = .ok (.bipush 97, 2) := by decide +kernel
theorem dX7_both5_8 : decode cX7_both5 8 = .ok (.bipush 110, 2) := by decide +kernel
theorem dX7_both5_10 : decode cX7_both5 10 = .ok (.bipush 100, 2) := by decide +kernel
theorem dX7_both5_12 : decode cX7_both5 12 = .ok (.iconst 0, 1) := by decide +kernel
theorem dX7_both5_13 : decode cX7_both5 13 = .ok (.iconst 0, 1) := by decide +kernel
theorem dX7_both5_14 : decode cX7_both5 14 = .ok (.iconst 0, 1) := by decide +kernel
theorem dX7_both5_15 : decode cX7_both5 15 = .ok (.iconst 0, 1) := by decide +kernel
theorem dX7_both5_16 : decode cX7_both5 16 = .ok (.iconst 0, 1) := by decide +kernel
theorem dX7_both5_17 : decode cX7_both5 17 = .ok (.invokevirtual 188, 3) := by decide +kernel
theorem dX7_both5_20 : decode cX7_both5 20 = .ok (.ifCond .eq 29, 3) := by decide +kernel
theorem dX7_both5_23 : decode cX7_both5 23 = .ok (.aload_n 0, 1) := by decide +kernel
theorem dX7_both5_24 : decode cX7_both5 24 = .ok (.invokevirtual 185, 3) := by decide +kernel
theorem dX7_both5_27 : decode cX7_both5 27 = .ok (.aload_n 0, 1) := by decide +kernel
theorem dX7_both5_28 : decode cX7_both5 28 = .ok (.invokevirtual 234, 3) := by decide +kernel
theorem dX7_both5_31 : decode cX7_both5 31 = .ok (.istore_n 2, 1) := by decide +kernel
theorem dX7_both5_32 : decode cX7_both5 32 = .ok (.iload_n 1, 1) := by decide +kernel
theorem dX7_both5_33 : decode cX7_both5 33 = .ok (.ifCond .eq 11, 3) := by decide +kernel
theorem dX7_both5_36 : decode cX7_both5 36 = .ok (.iload_n 2, 1) := by decide +kernel
theorem dX7_both5_37 : decode cX7_both5 37 = .ok (.ifCond .eq 7, 3) := by decide +kernel
theorem dX7_both5_40 : decode cX7_both5 40 = .ok (.iconst 1, 1) := by decide +kernel
theorem dX7_both5_41 : decode cX7_both5 41 = .ok (.goto 4, 3) := by decide +kernel
theorem dX7_both5_44 : decode cX7_both5 44 = .ok (.iconst 0, 1) := by decide +kernel
theorem dX7_both5_45 : decode cX7_both5 45 = .ok (.istore_n 1, 1) := by decide +kernel
theorem dX7_both5_46 : decode cX7_both5 46 = .ok (.goto (-41), 3) := by decide +kernel
theorem dX7_both5_49 : decode cX7_both5 49 = .ok (.iload_n 1, 1) := by decide +kernel
theorem dX7_both5_50 : decode cX7_both5 50 = .ok (.ireturn, 1) := by decide +kernel
theorem dX7_either5_0 : decode cX7_either5 0 = .ok (.aload_n 0, 1) := by decide +kernel
theorem dX7_either5_1 : decode cX7_either5 1 = .ok (.invokevirtual 237, 3) := by decide +kernel
theorem dX7_either5_4 : decode cX7_either5 4 = .ok (.istore_n 1, 1) := by decide +kernel
theorem dX7_either5_5 : decode cX7_either5 5 = .ok (.aload_n 0, 1) := by decide +kernel
theorem dX7_either5_6 : decode cX7_either5 6 = .ok (.bipush 111, 2) := by decide +kernel
theorem dX7_either5_8 : decode cX7_either5 8 = .ok (.bipush 114, 2) := by decide +kernel
theorem dX7_either5_10 : decode cX7_either5 10 = .ok (.iconst 0, 1) := by decide +kernel
theorem dX7_either5_11 : decode cX7_either5 11 = .ok (.iconst 0, 1) := by decide +kernel
theorem dX7_either5_12 : decode cX7_either5 12 = .ok (.iconst 0, 1) := by decide +kernel
theorem dX7_either5_13 : decode cX7_either5 13 = .ok (.iconst 0, 1) := by decide +kernel
theorem dX7_either5_14 : decode cX7_either5 14 = .ok (.iconst 0, 1) := by decide +kernel
theorem dX7_either5_15 : decode cX7_either5 15 = .ok (.iconst 0, 1) := by decide +kernel
theorem dX7_either5_16 : decode cX7_either5 16 = .ok (.invokevirtual 188, 3) := by decide +kernel
theorem dX7_either5_19 : decode cX7_either5 19 = .ok (.ifCond .eq 29, 3) := by decide +kernel
theorem dX7_either5_22 : decode cX7_either5 22 = .ok (.aload_n 0, 1) := by decide +kernel
theorem dX7_either5_23 : decode cX7_either5 23 = .ok (.invokevirtual 185, 3) := by decide +kernel
theorem dX7_either5_26 : decode cX7_either5 26 = .ok (.aload_n 0, 1) := by decide +kernel
theorem dX7_either5_27 : decode cX7_either5 27 = .ok (.invokevirtual 237, 3) := by decide +kernel
theorem dX7_either5_30 : decode cX7_either5 30 = .ok (.istore_n 2, 1) := by decide +kernel
theorem dX7_either5_31 : decode cX7_either5 31 = .ok (.iload_n 1, 1) := by decide +kernel
theorem dX7_either5_32 : decode cX7_either5 32 = .ok (.ifCond .ne 7, 3) := by decide +kernel
theorem dX7_either5_35 : decode cX7_either5 35 = .ok (.iload_n 2, 1) := by decide +kernel
theorem dX7_either5_36 : decode cX7_either5 36 = .ok (.ifCond .eq 7, 3) := by decide +kernel
theorem dX7_either5_39 : decode cX7_either5 39 = .ok (.iconst 1, 1) := by decide +kernel
theorem dX7_either5_40 : decode cX7_either5 40 = .ok (.goto 4, 3) := by decide +kernel
theorem dX7_either5_43 : decode cX7_either5 43 = .ok (.iconst 0, 1) := by decide +kernel
theorem dX7_either5_44 : decode cX7_either5 44 = .ok (.istore_n 1, 1) := by decide +kernel
theorem dX7_either5_45 : decode cX7_either5 45 = .ok (.goto (-40), 3) := by decide +kernel
theorem dX7_either5_48 : decode cX7_either5 48 = .ok (.iload_n 1, 1) := by decide +kernel
theorem dX7_either5_49 : decode cX7_either5 49 = .ok (.ireturn, 1) := by decide +kernel
theorem dX7_atom4_0 : decode cX7_atom4 0 = .ok (.iconst 0, 1) := by decide +kernel
theorem dX7_atom4_1 : decode cX7_atom4 1 = .ok (.istore_n 1, 1) := by decide +kernel
theorem dX7_atom4_2 : decode cX7_atom4 2 = .ok (.aload_n 0, 1) := by decide +kernel
theorem dX7_atom4_3 : decode cX7_atom4 3 = .ok (.bipush 45, 2) := by decide +kernel
theorem dX7_atom4_5 : decode cX7_atom4 5 = .ok (.invokevirtual 210, 3) := by decide +kernel
theorem dX7_atom4_8 : decode cX7_atom4 8 = .ok (.ifCond .eq 29, 3) := by decide +kernel
theorem dX7_atom4_11 : decode cX7_atom4 11 = .ok (.aload_n 0, 1) := by decide +kernel
theorem dX7_atom4_12 : decode cX7_atom4 12 = .ok (.invokevirtual 213, 3) := by decide +kernel
theorem dX7_atom4_15 : decode cX7_atom4 15 = .ok (.ifCond .eq 146, 3) := by decide +kernel
theorem dX7_atom4_18 : decode cX7_atom4 18 = .ok (.aload_n 0, 1) := by decide +kernel
theorem dX7_atom4_19 : decode cX7_atom4 19 = .ok (.invokevirtual 221, 3) := by decide +kernel
theorem dX7_atom4_22 : decode cX7_atom4 22 = .ok (.ineg, 1) := by decide +kernel
theorem dX7_atom4_23 : decode cX7_atom4 23 = .ok (.istore_n 1, 1) := by decide +kernel
theorem dX7_atom4_24 : decode cX7_atom4 24 = .ok (.aload_n 0, 1) := by decide +kernel
theorem dX7_atom4_25 : decode cX7_atom4 25 = .ok (.dup, 1) := by decide +kernel
theorem dX7_atom4_26 : decode cX7_atom4 26 = .ok (.getfield 179, 3) := by decide +kernel
theorem dX7_atom4_29 : decode cX7_atom4 29 = .ok (.iconst 1, 1) := by decide +kernel
theorem dX7_atom4_30 : decode cX7_atom4 30 = .ok (.isub, 1) := by decide +kernel
theorem dX7_atom4_31 : decode cX7_atom4 31 = .ok (.putfield 179, 3) := by decide +kernel
theorem dX7_atom4_34 : decode cX7_atom4 34 = .ok (.goto 127, 3) := by decide +kernel
theorem dX7_atom4_37 : decode cX7_atom4 37 = .ok (.aload_n 0, 1) := by decide +kernel
theorem dX7_atom4_38 : decode cX7_atom4 38 = .ok (.bipush 40, 2) := by decide +kernel
theorem dX7_atom4_40 : decode cX7_atom4 40 = .ok (.invokevirtual 210, 3) := by decide +kernel
theorem dX7_atom4_43 : decode cX7_atom4 43 = .ok (.ifCond .eq 52, 3) := by decide +kernel
theorem dX7_atom4_46 : decode cX7_atom4 46 = .ok (.aload_n 0, 1) := by decide +kernel
theorem dX7_atom4_47 : decode cX7_atom4 47 = .ok (.invokevirtual 213, 3) := by decide +kernel
theorem dX7_atom4_50 : decode cX7_atom4 50 = .ok (.ifCond .eq 111, 3) := by decide +kernel
theorem dX7_atom4_53 : decode cX7_atom4 53 = .ok (.aload_n 0, 1) := by decide +kernel
theorem dX7_atom4_54 : decode cX7_atom4 54 = .ok (.invokevirtual 240, 3) := by decide +kernel
theorem dX7_atom4_57 : decode cX7_atom4 57 = .ok (.istore_n 1, 1) := by decide +kernel
theorem dX7_atom4_58 : decode cX7_atom4 58 = .ok (.aload_n 0, 1) := by decide +kernel
theorem dX7_atom4_59 : decode cX7_atom4 59 = .ok (.bipush 41, 2) := by decide +kernel
theorem dX7_atom4_61 : decode cX7_atom4 61 = .ok (.invokevirtual 210, 3) := by decide +kernel
theorem dX7_atom4_64 : decode cX7_atom4 64 = .ok (.ifCond .ne 7, 3) := by decide +kernel
theorem dX7_atom4_67 : decode cX7_atom4 67 = .ok (.aload_n 0, 1) := by decide +kernel
theorem dX7_atom4_68 : decode cX7_atom4 68 = .ok (.invokevirtual 182, 3) := by decide +kernel
theorem dX7_atom4_71 : decode cX7_atom4 71 = .ok (.aload_n 0, 1) := by decide +kernel
theorem dX7_atom4_72 : decode cX7_atom4 72 = .ok (.dup, 1) := by decide +kernel
theorem dX7_atom4_73 : decode cX7_atom4 73 = .ok (.getfield 179, 3) := by decide +kernel
theorem dX7_atom4_76 : decode cX7_atom4 76 = .ok (.iconst 1, 1) := by decide +kernel
theorem dX7_atom4_77 : decode cX7_atom4 77 = .ok (.isub, 1) := by decide +kernel
theorem dX7_atom4_78 : decode cX7_atom4 78 = .ok (.putfield 179, 3) := by decide +kernel
theorem dX7_atom4_81 : decode cX7_atom4 81 = .ok (.aload_n 0, 1) := by decide +kernel
theorem dX7_atom4_82 : decode cX7_atom4 82 = .ok (.getfield 169, 3) := by decide +kernel
theorem dX7_atom4_85 : decode cX7_atom4 85 = .ok (.ifCond .ne 76, 3) := by decide +kernel
theorem dX7_atom4_88 : decode cX7_atom4 88 = .ok (.aload_n 0, 1) := by decide +kernel
theorem dX7_atom4_89 : decode cX7_atom4 89 = .ok (.invokevirtual 185, 3) := by decide +kernel
theorem dX7_atom4_92 : decode cX7_atom4 92 = .ok (.goto 69, 3) := by decide +kernel
theorem dX7_atom4_95 : decode cX7_atom4 95 = .ok (.aload_n 0, 1) := by decide +kernel
theorem dX7_atom4_96 : decode cX7_atom4 96 = .ok (.getfield 169, 3) := by decide +kernel
theorem dX7_atom4_99 : decode cX7_atom4 99 = .ok (.ifCond .ne 24, 3) := by decide +kernel
theorem dX7_atom4_102 : decode cX7_atom4 102 = .ok (.aload_n 0, 1) := by decide +kernel
theorem dX7_atom4_103 : decode cX7_atom4 103 = .ok (.getfield 154, 3) := by decide +kernel
theorem dX7_atom4_106 : decode cX7_atom4 106 = .ok (.iconst 2, 1) := by decide +kernel
theorem dX7_atom4_107 : decode cX7_atom4 107 = .ok (.if_icmp .ne 16, 3) := by decide +kernel
theorem dX7_atom4_110 : decode cX7_atom4 110 = .ok (.aload_n 0, 1) := by decide +kernel
theorem dX7_atom4_111 : decode cX7_atom4 111 = .ok (.getfield 165, 3) := by decide +kernel
theorem dX7_atom4_114 : decode cX7_atom4 114 = .ok (.l2i, 1) := by decide +kernel
theorem dX7_atom4_115 : decode cX7_atom4 115 = .ok (.istore_n 1, 1) := by decide +kernel
theorem dX7_atom4_116 : decode cX7_atom4 116 = .ok (.aload_n 0, 1) := by decide +kernel
theorem dX7_atom4_117 : decode cX7_atom4 117 = .ok (.invokevirtual 185, 3) := by decide +kernel
theorem dX7_atom4_120 : decode cX7_atom4 120 = .ok (.goto 41, 3) := by decide +kernel
theorem dX7_atom4_123 : decode cX7_atom4 123 = .ok (.aload_n 0, 1) := by decide +kernel
theorem dX7_atom4_124 : decode cX7_atom4 124 = .ok (.getfield 169, 3) := by decide +kernel
theorem dX7_atom4_127 : decode cX7_atom4 127 = .ok (.ifCond .ne 30, 3) := by decide +kernel
theorem dX7_atom4_130 : decode cX7_atom4 130 = .ok (.aload_n 0, 1) := by decide +kernel
theorem dX7_atom4_131 : decode cX7_atom4 131 = .ok (.getfield 154, 3) := by decide +kernel
theorem dX7_atom4_134 : decode cX7_atom4 134 = .ok (.iconst 1, 1) := by decide +kernel
theorem dX7_atom4_135 : decode cX7_atom4 135 = .ok (.if_icmp .ne 22, 3) := by decide +kernel
theorem dX7_atom4_138 : decode cX7_atom4 138 = .ok (.aload_n 0, 1) := by decide +kernel
theorem dX7_atom4_139 : decode cX7_atom4 139 = .ok (.invokevirtual 217, 3) := by decide +kernel
theorem dX7_atom4_142 : decode cX7_atom4 142 = .ok (.istore_n 1, 1) := by decide +kernel
theorem dX7_atom4_143 : decode cX7_atom4 143 = .ok (.aload_n 0, 1) := by decide +kernel
theorem dX7_atom4_144 : decode cX7_atom4 144 = .ok (.getfield 169, 3) := by decide +kernel
theorem dX7_atom4_147 : decode cX7_atom4 147 = .ok (.ifCond .ne 14, 3) := by decide +kernel
theorem dX7_atom4_150 : decode cX7_atom4 150 = .ok (.aload_n 0, 1) := by decide +kernel
theorem dX7_atom4_151 : decode cX7_atom4 151 = .ok (.invokevirtual 185, 3) := by decide +kernel
theorem dX7_atom4_154 : decode cX7_atom4 154 = .ok (.goto 7, 3) := by decide +kernel
theorem dX7_atom4_157 : decode cX7_atom4 157 = .ok (.aload_n 0, 1) := by decide +kernel
theorem dX7_atom4_158 : decode cX7_atom4 158 = .ok (.invokevirtual 182, 3) := by decide +kernel
theorem dX7_atom4_161 : decode cX7_atom4 161 = .ok (.iload_n 1, 1) := by decide +kernel
theorem dX7_atom4_162 : decode cX7_atom4 162 = .ok (.ireturn, 1) := by decide +kernel
theorem dX7_term4_0 : decode cX7_term4 0 = .ok (.aload_n 0, 1) := by decide +kernel
theorem dX7_term4_1 : decode cX7_term4 1 = .ok (.invokevirtual 243, 3) := by decide +kernel
theorem dX7_term4_4 : decode cX7_term4 4 = .ok (.istore_n 1, 1) := by decide +kernel
theorem dX7_term4_5 : decode cX7_term4 5 = .ok (.aload_n 0, 1) := by decide +kernel
theorem dX7_term4_6 : decode cX7_term4 6 = .ok (.bipush 42, 2) := by decide +kernel
theorem dX7_term4_8 : decode cX7_term4 8 = .ok (.invokevirtual 210, 3) := by decide +kernel
theorem dX7_term4_11 : decode cX7_term4 11 = .ok (.ifCond .eq 17, 3) := by decide +kernel
theorem dX7_term4_14 : decode cX7_term4 14 = .ok (.aload_n 0, 1) := by decide +kernel
theorem dX7_term4_15 : decode cX7_term4 15 = .ok (.invokevirtual 185, 3) := by decide +kernel
theorem dX7_term4_18 : decode cX7_term4 18 = .ok (.iload_n 1, 1) := by decide +kernel
theorem dX7_term4_19 : decode cX7_term4 19 = .ok (.aload_n 0, 1) := by decide +kernel
theorem dX7_term4_20 : decode cX7_term4 20 = .ok (.invokevirtual 243, 3) := by decide +kernel
theorem dX7_term4_23 : decode cX7_term4 23 = .ok (.imul, 1) := by decide +kernel
theorem dX7_term4_24 : decode cX7_term4 24 = .ok (.istore_n 1, 1) := by decide +kernel
theorem dX7_term4_25 : decode cX7_term4 25 = .ok (.goto (-20), 3) := by decide +kernel
theorem dX7_term4_28 : decode cX7_term4 28 = .ok (.iload_n 1, 1) := by decide +kernel
theorem dX7_term4_29 : decode cX7_term4 29 = .ok (.ireturn, 1) := by decide +kernel
theorem dX7_added4_0 : decode cX7_added4 0 = .ok (.aload_n 0, 1) := by decide +kernel
theorem dX7_added4_1 : decode cX7_added4 1 = .ok (.invokevirtual 246, 3) := by decide +kernel
theorem dX7_added4_4 : decode cX7_added4 4 = .ok (.istore_n 1, 1) := by decide +kernel
theorem dX7_added4_5 : decode cX7_added4 5 = .ok (.aload_n 0, 1) := by decide +kernel
theorem dX7_added4_6 : decode cX7_added4 6 = .ok (.bipush 43, 2) := by decide +kernel
theorem dX7_added4_8 : decode cX7_added4 8 = .ok (.invokevirtual 210, 3) := by decide +kernel
theorem dX7_added4_11 : decode cX7_added4 11 = .ok (.ifCond .ne 12, 3) := by decide +kernel
theorem dX7_added4_14 : decode cX7_added4 14 = .ok (.aload_n 0, 1) := by decide +kernel
theorem dX7_added4_15 : decode cX7_added4 15 = .ok (.bipush 45, 2) := by decide +kernel
theorem dX7_added4_17 : decode cX7_added4 17 = .ok (.invokevirtual 210, 3) := by decide +kernel
theorem dX7_added4_20 : decode cX7_added4 20 = .ok (.ifCond .eq 46, 3) := by decide +kernel
theorem dX7_added4_23 : decode cX7_added4 23 = .ok (.aload_n 0, 1) := by decide +kernel
theorem dX7_added4_24 : decode cX7_added4 24 = .ok (.getfield 165, 3) := by decide +kernel
theorem dX7_added4_27 : decode cX7_added4 27 = .ok (.ldc2_w 227, 3) := by decide +kernel
theorem dX7_added4_30 : decode cX7_added4 30 = .ok (.lcmp, 1) := by decide +kernel
theorem dX7_added4_31 : decode cX7_added4 31 = .ok (.ifCond .ne 7, 3) := by decide +kernel
theorem dX7_added4_34 : decode cX7_added4 34 = .ok (.iconst 1, 1) := by decide +kernel
theorem dX7_added4_35 : decode cX7_added4 35 = .ok (.goto 4, 3) := by decide +kernel
theorem dX7_added4_38 : decode cX7_added4 38 = .ok (.iconst 0, 1) := by decide +kernel
theorem dX7_added4_39 : decode cX7_added4 39 = .ok (.istore_n 2, 1) := by decide +kernel
theorem dX7_added4_40 : decode cX7_added4 40 = .ok (.aload_n 0, 1) := by decide +kernel
theorem dX7_added4_41 : decode cX7_added4 41 = .ok (.invokevirtual 185, 3) := by decide +kernel
theorem dX7_added4_44 : decode cX7_added4 44 = .ok (.aload_n 0, 1) := by decide +kernel
theorem dX7_added4_45 : decode cX7_added4 45 = .ok (.invokevirtual 246, 3) := by decide +kernel
theorem dX7_added4_48 : decode cX7_added4 48 = .ok (.istore_n 3, 1) := by decide +kernel
theorem dX7_added4_49 : decode cX7_added4 49 = .ok (.iload_n 2, 1) := by decide +kernel
theorem dX7_added4_50 : decode cX7_added4 50 = .ok (.ifCond .eq 9, 3) := by decide +kernel
theorem dX7_added4_53 : decode cX7_added4 53 = .ok (.iload_n 1, 1) := by decide +kernel
theorem dX7_added4_54 : decode cX7_added4 54 = .ok (.iload_n 3, 1) := by decide +kernel
theorem dX7_added4_55 : decode cX7_added4 55 = .ok (.iadd, 1) := by decide +kernel
theorem dX7_added4_56 : decode cX7_added4 56 = .ok (.goto 6, 3) := by decide +kernel
theorem dX7_added4_59 : decode cX7_added4 59 = .ok (.iload_n 1, 1) := by decide +kernel
theorem dX7_added4_60 : decode cX7_added4 60 = .ok (.iload_n 3, 1) := by decide +kernel
theorem dX7_added4_61 : decode cX7_added4 61 = .ok (.isub, 1) := by decide +kernel
theorem dX7_added4_62 : decode cX7_added4 62 = .ok (.istore_n 1, 1) := by decide +kernel
theorem dX7_added4_63 : decode cX7_added4 63 = .ok (.goto (-58), 3) := by decide +kernel
theorem dX7_added4_66 : decode cX7_added4 66 = .ok (.iload_n 1, 1) := by decide +kernel
theorem dX7_added4_67 : decode cX7_added4 67 = .ok (.ireturn, 1) := by decide +kernel
theorem dX7_not4_0 : decode cX7_not4 0 = .ok (.aload_n 0, 1) := by decide +kernel
theorem dX7_not4_1 : decode cX7_not4 1 = .ok (.bipush 110, 2) := by decide +kernel
theorem dX7_not4_3 : decode cX7_not4 3 = .ok (.bipush 111, 2) := by decide +kernel
theorem dX7_not4_5 : decode cX7_not4 5 = .ok (.bipush 116, 2) := by decide +kernel
theorem dX7_not4_7 : decode cX7_not4 7 = .ok (.iconst 0, 1) := by decide +kernel
theorem dX7_not4_8 : decode cX7_not4 8 = .ok (.iconst 0, 1) := by decide +kernel
theorem dX7_not4_9 : decode cX7_not4 9 = .ok (.iconst 0, 1) := by decide +kernel
theorem dX7_not4_10 : decode cX7_not4 10 = .ok (.iconst 0, 1) := by decide +kernel
theorem dX7_not4_11 : decode cX7_not4 11 = .ok (.iconst 0, 1) := by decide +kernel
theorem dX7_not4_12 : decode cX7_not4 12 = .ok (.invokevirtual 188, 3) := by decide +kernel
theorem dX7_not4_15 : decode cX7_not4 15 = .ok (.ifCond .eq 37, 3) := by decide +kernel
theorem dX7_not4_18 : decode cX7_not4 18 = .ok (.aload_n 0, 1) := by decide +kernel
theorem dX7_not4_19 : decode cX7_not4 19 = .ok (.invokevirtual 213, 3) := by decide +kernel
theorem dX7_not4_22 : decode cX7_not4 22 = .ok (.ifCond .ne 5, 3) := by decide +kernel
theorem dX7_not4_25 : decode cX7_not4 25 = .ok (.iconst 0, 1) := by decide +kernel
theorem dX7_not4_26 : decode cX7_not4 26 = .ok (.ireturn, 1) := by decide +kernel
theorem dX7_not4_27 : decode cX7_not4 27 = .ok (.aload_n 0, 1) := by decide +kernel
theorem dX7_not4_28 : decode cX7_not4 28 = .ok (.invokevirtual 234, 3) := by decide +kernel
theorem dX7_not4_31 : decode cX7_not4 31 = .ok (.istore_n 1, 1) := by decide +kernel
theorem dX7_not4_32 : decode cX7_not4 32 = .ok (.aload_n 0, 1) := by decide +kernel
theorem dX7_not4_33 : decode cX7_not4 33 = .ok (.dup, 1) := by decide +kernel
theorem dX7_not4_34 : decode cX7_not4 34 = .ok (.getfield 179, 3) := by decide +kernel
theorem dX7_not4_37 : decode cX7_not4 37 = .ok (.iconst 1, 1) := by decide +kernel
theorem dX7_not4_38 : decode cX7_not4 38 = .ok (.isub, 1) := by decide +kernel
theorem dX7_not4_39 : decode cX7_not4 39 = .ok (.putfield 179, 3) := by decide +kernel
theorem dX7_not4_42 : decode cX7_not4 42 = .ok (.iload_n 1, 1) := by decide +kernel
theorem dX7_not4_43 : decode cX7_not4 43 = .ok (.ifCond .ne 7, 3) := by decide +kernel
theorem dX7_not4_46 : decode cX7_not4 46 = .ok (.iconst 1, 1) := by decide +kernel
theorem dX7_not4_47 : decode cX7_not4 47 = .ok (.goto 4, 3) := by decide +kernel
theorem dX7_not4_50 : decode cX7_not4 50 = .ok (.iconst 0, 1) := by decide +kernel
theorem dX7_not4_51 : decode cX7_not4 51 = .ok (.ireturn, 1) := by decide +kernel
theorem dX7_not4_52 : decode cX7_not4 52 = .ok (.aload_n 0, 1) := by decide +kernel
theorem dX7_not4_53 : decode cX7_not4 53 = .ok (.invokevirtual 249, 3) := by decide +kernel
theorem dX7_not4_56 : decode cX7_not4 56 = .ok (.istore_n 1, 1) := by decide +kernel
theorem dX7_not4_57 : decode cX7_not4 57 = .ok (.aload_n 0, 1) := by decide +kernel
theorem dX7_not4_58 : decode cX7_not4 58 = .ok (.bipush 60, 2) := by decide +kernel
theorem dX7_not4_60 : decode cX7_not4 60 = .ok (.invokevirtual 210, 3) := by decide +kernel
theorem dX7_not4_63 : decode cX7_not4 63 = .ok (.ifCond .ne 14, 3) := by decide +kernel
theorem dX7_not4_66 : decode cX7_not4 66 = .ok (.aload_n 0, 1) := by decide +kernel
theorem dX7_not4_67 : decode cX7_not4 67 = .ok (.bipush 61, 2) := by decide +kernel
theorem dX7_not4_69 : decode cX7_not4 69 = .ok (.invokevirtual 210, 3) := by decide +kernel
theorem dX7_not4_72 : decode cX7_not4 72 = .ok (.ifCond .ne 5, 3) := by decide +kernel
theorem dX7_not4_75 : decode cX7_not4 75 = .ok (.iload_n 1, 1) := by decide +kernel
theorem dX7_not4_76 : decode cX7_not4 76 = .ok (.ireturn, 1) := by decide +kernel
theorem dX7_not4_77 : decode cX7_not4 77 = .ok (.aload_n 0, 1) := by decide +kernel
theorem dX7_not4_78 : decode cX7_not4 78 = .ok (.getfield 165, 3) := by decide +kernel
theorem dX7_not4_81 : decode cX7_not4 81 = .ok (.ldc2_w 232, 3) := by decide +kernel
theorem dX7_not4_84 : decode cX7_not4 84 = .ok (.lcmp, 1) := by decide +kernel
theorem dX7_not4_85 : decode cX7_not4 85 = .ok (.ifCond .ne 7, 3) := by decide +kernel
theorem dX7_not4_88 : decode cX7_not4 88 = .ok (.iconst 1, 1) := by decide +kernel
theorem dX7_not4_89 : decode cX7_not4 89 = .ok (.goto 4, 3) := by decide +kernel
theorem dX7_not4_92 : decode cX7_not4 92 = .ok (.iconst 0, 1) := by decide +kernel
theorem dX7_not4_93 : decode cX7_not4 93 = .ok (.istore_n 2, 1) := by decide +kernel
theorem dX7_not4_94 : decode cX7_not4 94 = .ok (.aload_n 0, 1) := by decide +kernel
theorem dX7_not4_95 : decode cX7_not4 95 = .ok (.invokevirtual 185, 3) := by decide +kernel
theorem dX7_not4_98 : decode cX7_not4 98 = .ok (.aload_n 0, 1) := by decide +kernel
theorem dX7_not4_99 : decode cX7_not4 99 = .ok (.invokevirtual 249, 3) := by decide +kernel
theorem dX7_not4_102 : decode cX7_not4 102 = .ok (.istore_n 3, 1) := by decide +kernel
theorem dX7_not4_103 : decode cX7_not4 103 = .ok (.iload_n 2, 1) := by decide +kernel
theorem dX7_not4_104 : decode cX7_not4 104 = .ok (.ifCond .eq 11, 3) := by decide +kernel
theorem dX7_not4_107 : decode cX7_not4 107 = .ok (.iload_n 1, 1) := by decide +kernel
theorem dX7_not4_108 : decode cX7_not4 108 = .ok (.iload_n 3, 1) := by decide +kernel
theorem dX7_not4_109 : decode cX7_not4 109 = .ok (.if_icmp .ge 15, 3) := by decide +kernel
theorem dX7_not4_112 : decode cX7_not4 112 = .ok (.goto 8, 3) := by decide +kernel
theorem dX7_not4_115 : decode cX7_not4 115 = .ok (.iload_n 1, 1) := by decide +kernel
theorem dX7_not4_116 : decode cX7_not4 116 = .ok (.iload_n 3, 1) := by decide +kernel
theorem dX7_not4_117 : decode cX7_not4 117 = .ok (.if_icmp .ne 7, 3) := by decide +kernel
theorem dX7_not4_120 : decode cX7_not4 120 = .ok (.iconst 1, 1) := by decide +kernel
theorem dX7_not4_121 : decode cX7_not4 121 = .ok (.goto 4, 3) := by decide +kernel
theorem dX7_not4_124 : decode cX7_not4 124 = .ok (.iconst 0, 1) := by decide +kernel
theorem dX7_not4_125 : decode cX7_not4 125 = .ok (.ireturn, 1) := by decide +kernel
theorem dX7_both4_0 : decode cX7_both4 0 = .ok (.aload_n 0, 1) := by decide +kernel
theorem dX7_both4_1 : decode cX7_both4 1 = .ok (.invokevirtual 252, 3) := by decide +kernel
theorem dX7_both4_4 : decode cX7_both4 4 = .ok (.istore_n 1, 1) := by decide +kernel
theorem dX7_both4_5 : decode cX7_both4 5 = .ok (.aload_n 0, 1) := by decide +kernel
theorem dX7_both4_6 : decode cX7_both4 6 = .ok (.bipush 97, 2) := by decide +kernel
theorem dX7_both4_8 : decode cX7_both4 8 = .ok (.bipush 110, 2) := by decide +kernel
theorem dX7_both4_10 : decode cX7_both4 10 = .ok (.bipush 100, 2) := by decide +kernel
theorem dX7_both4_12 : decode cX7_both4 12 = .ok (.iconst 0, 1) := by decide +kernel
theorem dX7_both4_13 : decode cX7_both4 13 = .ok (.iconst 0, 1) := by decide +kernel
theorem dX7_both4_14 : decode cX7_both4 14 = .ok (.iconst 0, 1) := by decide +kernel
theorem dX7_both4_15 : decode cX7_both4 15 = .ok (.iconst 0, 1) := by decide +kernel
theorem dX7_both4_16 : decode cX7_both4 16 = .ok (.iconst 0, 1) := by decide +kernel
theorem dX7_both4_17 : decode cX7_both4 17 = .ok (.invokevirtual 188, 3) := by decide +kernel
theorem dX7_both4_20 : decode cX7_both4 20 = .ok (.ifCond .eq 29, 3) := by decide +kernel
theorem dX7_both4_23 : decode cX7_both4 23 = .ok (.aload_n 0, 1) := by decide +kernel
theorem dX7_both4_24 : decode cX7_both4 24 = .ok (.invokevirtual 185, 3) := by decide +kernel
theorem dX7_both4_27 : decode cX7_both4 27 = .ok (.aload_n 0, 1) := by decide +kernel
theorem dX7_both4_28 : decode cX7_both4 28 = .ok (.invokevirtual 252, 3) := by decide +kernel
theorem dX7_both4_31 : decode cX7_both4 31 = .ok (.istore_n 2, 1) := by decide +kernel
theorem dX7_both4_32 : decode cX7_both4 32 = .ok (.iload_n 1, 1) := by decide +kernel
theorem dX7_both4_33 : decode cX7_both4 33 = .ok (.ifCond .eq 11, 3) := by decide +kernel
theorem dX7_both4_36 : decode cX7_both4 36 = .ok (.iload_n 2, 1) := by decide +kernel
theorem dX7_both4_37 : decode cX7_both4 37 = .ok (.ifCond .eq 7, 3) := by decide +kernel
theorem dX7_both4_40 : decode cX7_both4 40 = .ok (.iconst 1, 1) := by decide +kernel
theorem dX7_both4_41 : decode cX7_both4 41 = .ok (.goto 4, 3) := by decide +kernel
theorem dX7_both4_44 : decode cX7_both4 44 = .ok (.iconst 0, 1) := by decide +kernel
theorem dX7_both4_45 : decode cX7_both4 45 = .ok (.istore_n 1, 1) := by decide +kernel
theorem dX7_both4_46 : decode cX7_both4 46 = .ok (.goto (-41), 3) := by decide +kernel
theorem dX7_both4_49 : decode cX7_both4 49 = .ok (.iload_n 1, 1) := by decide +kernel
theorem dX7_both4_50 : decode cX7_both4 50 = .ok (.ireturn, 1) := by decide +kernel
theorem dX7_either4_0 : decode cX7_either4 0 = .ok (.aload_n 0, 1) := by decide +kernel
theorem dX7_either4_1 : decode cX7_either4 1 = .ok (.invokevirtual 255, 3) := by decide +kernel
theorem dX7_either4_4 : decode cX7_either4 4 = .ok (.istore_n 1, 1) := by decide +kernel
theorem dX7_either4_5 : decode cX7_either4 5 = .ok (.aload_n 0, 1) := by decide +kernel
theorem dX7_either4_6 : decode cX7_either4 6 = .ok (.bipush 111, 2) := by decide +kernel
theorem dX7_either4_8 : decode cX7_either4 8 = .ok (.bipush 114, 2) := by decide +kernel
theorem dX7_either4_10 : decode cX7_either4 10 = .ok (.iconst 0, 1) := by decide +kernel
theorem dX7_either4_11 : decode cX7_either4 11 = .ok (.iconst 0, 1) := by decide +kernel
theorem dX7_either4_12 : decode cX7_either4 12 = .ok (.iconst 0, 1) := by decide +kernel
theorem dX7_either4_13 : decode cX7_either4 13 = .ok (.iconst 0, 1) := by decide +kernel
theorem dX7_either4_14 : decode cX7_either4 14 = .ok (.iconst 0, 1) := by decide +kernel
theorem dX7_either4_15 : decode cX7_either4 15 = .ok (.iconst 0, 1) := by decide +kernel
theorem dX7_either4_16 : decode cX7_either4 16 = .ok (.invokevirtual 188, 3) := by decide +kernel
theorem dX7_either4_19 : decode cX7_either4 19 = .ok (.ifCond .eq 29, 3) := by decide +kernel
theorem dX7_either4_22 : decode cX7_either4 22 = .ok (.aload_n 0, 1) := by decide +kernel
theorem dX7_either4_23 : decode cX7_either4 23 = .ok (.invokevirtual 185, 3) := by decide +kernel
theorem dX7_either4_26 : decode cX7_either4 26 = .ok (.aload_n 0, 1) := by decide +kernel
theorem dX7_either4_27 : decode cX7_either4 27 = .ok (.invokevirtual 255, 3) := by decide +kernel
theorem dX7_either4_30 : decode cX7_either4 30 = .ok (.istore_n 2, 1) := by decide +kernel
theorem dX7_either4_31 : decode cX7_either4 31 = .ok (.iload_n 1, 1) := by decide +kernel
theorem dX7_either4_32 : decode cX7_either4 32 = .ok (.ifCond .ne 7, 3) := by decide +kernel
theorem dX7_either4_35 : decode cX7_either4 35 = .ok (.iload_n 2, 1) := by decide +kernel
theorem dX7_either4_36 : decode cX7_either4 36 = .ok (.ifCond .eq 7, 3) := by decide +kernel
theorem dX7_either4_39 : decode cX7_either4 39 = .ok (.iconst 1, 1) := by decide +kernel
theorem dX7_either4_40 : decode cX7_either4 40 = .ok (.goto 4, 3) := by decide +kernel
theorem dX7_either4_43 : decode cX7_either4 43 = .ok (.iconst 0, 1) := by decide +kernel
theorem dX7_either4_44 : decode cX7_either4 44 = .ok (.istore_n 1, 1) := by decide +kernel
theorem dX7_either4_45 : decode cX7_either4 45 = .ok (.goto (-40), 3) := by decide +kernel
theorem dX7_either4_48 : decode cX7_either4 48 = .ok (.iload_n 1, 1) := by decide +kernel
theorem dX7_either4_49 : decode cX7_either4 49 = .ok (.ireturn, 1) := by decide +kernel
theorem dX7_atom3_0 : decode cX7_atom3 0 = .ok (.iconst 0, 1) := by decide +kernel
theorem dX7_atom3_1 : decode cX7_atom3 1 = .ok (.istore_n 1, 1) := by decide +kernel
theorem dX7_atom3_2 : decode cX7_atom3 2 = .ok (.aload_n 0, 1) := by decide +kernel
theorem dX7_atom3_3 : decode cX7_atom3 3 = .ok (.bipush 45, 2) := by decide +kernel
theorem dX7_atom3_5 : decode cX7_atom3 5 = .ok (.invokevirtual 210, 3) := by decide +kernel
theorem dX7_atom3_8 : decode cX7_atom3 8 = .ok (.ifCond .eq 29, 3) := by decide +kernel
theorem dX7_atom3_11 : decode cX7_atom3 11 = .ok (.aload_n 0, 1) := by decide +kernel
theorem dX7_atom3_12 : decode cX7_atom3 12 = .ok (.invokevirtual 213, 3) := by decide +kernel
theorem dX7_atom3_15 : decode cX7_atom3 15 = .ok (.ifCond .eq 146, 3) := by decide +kernel
theorem dX7_atom3_18 : decode cX7_atom3 18 = .ok (.aload_n 0, 1) := by decide +kernel
theorem dX7_atom3_19 : decode cX7_atom3 19 = .ok (.invokevirtual 243, 3) := by decide +kernel
theorem dX7_atom3_22 : decode cX7_atom3 22 = .ok (.ineg, 1) := by decide +kernel
theorem dX7_atom3_23 : decode cX7_atom3 23 = .ok (.istore_n 1, 1) := by decide +kernel
theorem dX7_atom3_24 : decode cX7_atom3 24 = .ok (.aload_n 0, 1) := by decide +kernel
theorem dX7_atom3_25 : decode cX7_atom3 25 = .ok (.dup, 1) := by decide +kernel
theorem dX7_atom3_26 : decode cX7_atom3 26 = .ok (.getfield 179, 3) := by decide +kernel
theorem dX7_atom3_29 : decode cX7_atom3 29 = .ok (.iconst 1, 1) := by decide +kernel
theorem dX7_atom3_30 : decode cX7_atom3 30 = .ok (.isub, 1) := by decide +kernel
theorem dX7_atom3_31 : decode cX7_atom3 31 = .ok (.putfield 179, 3) := by decide +kernel
theorem dX7_atom3_34 : decode cX7_atom3 34 = .ok (.goto 127, 3) := by decide +kernel
theorem dX7_atom3_37 : decode cX7_atom3 37 = .ok (.aload_n 0, 1) := by decide +kernel
theorem dX7_atom3_38 : decode cX7_atom3 38 = .ok (.bipush 40, 2) := by decide +kernel
theorem dX7_atom3_40 : decode cX7_atom3 40 = .ok (.invokevirtual 210, 3) := by decide +kernel
theorem dX7_atom3_43 : decode cX7_atom3 43 = .ok (.ifCond .eq 52, 3) := by decide +kernel
theorem dX7_atom3_46 : decode cX7_atom3 46 = .ok (.aload_n 0, 1) := by decide +kernel
theorem dX7_atom3_47 : decode cX7_atom3 47 = .ok (.invokevirtual 213, 3) := by decide +kernel
theorem dX7_atom3_50 : decode cX7_atom3 50 = .ok (.ifCond .eq 111, 3) := by decide +kernel
theorem dX7_atom3_53 : decode cX7_atom3 53 = .ok (.aload_n 0, 1) := by decide +kernel
theorem dX7_atom3_54 : decode cX7_atom3 54 = .ok (.invokevirtual 258, 3) := by decide +kernel
theorem dX7_atom3_57 : decode cX7_atom3 57 = .ok (.istore_n 1, 1) := by decide +kernel
theorem dX7_atom3_58 : decode cX7_atom3 58 = .ok (.aload_n 0, 1) := by decide +kernel
theorem dX7_atom3_59 : decode cX7_atom3 59 = .ok (.bipush 41, 2) := by decide +kernel
theorem dX7_atom3_61 : decode cX7_atom3 61 = .ok (.invokevirtual 210, 3) := by decide +kernel
theorem dX7_atom3_64 : decode cX7_atom3 64 = .ok (.ifCond .ne 7, 3) := by decide +kernel
theorem dX7_atom3_67 : decode cX7_atom3 67 = .ok (.aload_n 0, 1) := by decide +kernel
theorem dX7_atom3_68 : decode cX7_atom3 68 = .ok (.invokevirtual 182, 3) := by decide +kernel
theorem dX7_atom3_71 : decode cX7_atom3 71 = .ok (.aload_n 0, 1) := by decide +kernel
theorem dX7_atom3_72 : decode cX7_atom3 72 = .ok (.dup, 1) := by decide +kernel
theorem dX7_atom3_73 : decode cX7_atom3 73 = .ok (.getfield 179, 3) := by decide +kernel
theorem dX7_atom3_76 : decode cX7_atom3 76 = .ok (.iconst 1, 1) := by decide +kernel
theorem dX7_atom3_77 : decode cX7_atom3 77 = .ok (.isub, 1) := by decide +kernel
theorem dX7_atom3_78 : decode cX7_atom3 78 = .ok (.putfield 179, 3) := by decide +kernel
theorem dX7_atom3_81 : decode cX7_atom3 81 = .ok (.aload_n 0, 1) := by decide +kernel
theorem dX7_atom3_82 : decode cX7_atom3 82 = .ok (.getfield 169, 3) := by decide +kernel
theorem dX7_atom3_85 : decode cX7_atom3 85 = .ok (.ifCond .ne 76, 3) := by decide +kernel
theorem dX7_atom3_88 : decode cX7_atom3 88 = .ok (.aload_n 0, 1) := by decide +kernel
theorem dX7_atom3_89 : decode cX7_atom3 89 = .ok (.invokevirtual 185, 3) := by decide +kernel
theorem dX7_atom3_92 : decode cX7_atom3 92 = .ok (.goto 69, 3) := by decide +kernel
theorem dX7_atom3_95 : decode cX7_atom3 95 = .ok (.aload_n 0, 1) := by decide +kernel
theorem dX7_atom3_96 : decode cX7_atom3 96 = .ok (.getfield 169, 3) := by decide +kernel
theorem dX7_atom3_99 : decode cX7_atom3 99 = .ok (.ifCond .ne 24, 3) := by decide +kernel
theorem dX7_atom3_102 : decode cX7_atom3 102 = .ok (.aload_n 0, 1) := by decide +kernel
theorem dX7_atom3_103 : decode cX7_atom3 103 = .ok (.getfield 154, 3) := by decide +kernel
theorem dX7_atom3_106 : decode cX7_atom3 106 = .ok (.iconst 2, 1) := by decide +kernel
theorem dX7_atom3_107 : decode cX7_atom3 107 = .ok (.if_icmp .ne 16, 3) := by decide +kernel
theorem dX7_atom3_110 : decode cX7_atom3 110 = .ok (.aload_n 0, 1) := by decide +kernel
theorem dX7_atom3_111 : decode cX7_atom3 111 = .ok (.getfield 165, 3) := by decide +kernel
theorem dX7_atom3_114 : decode cX7_atom3 114 = .ok (.l2i, 1) := by decide +kernel
theorem dX7_atom3_115 : decode cX7_atom3 115 = .ok (.istore_n 1, 1) := by decide +kernel
theorem dX7_atom3_116 : decode cX7_atom3 116 = .ok (.aload_n 0, 1) := by decide +kernel
theorem dX7_atom3_117 : decode cX7_atom3 117 = .ok (.invokevirtual 185, 3) := by decide +kernel
theorem dX7_atom3_120 : decode cX7_atom3 120 = .ok (.goto 41, 3) := by decide +kernel
theorem dX7_atom3_123 : decode cX7_atom3 123 = .ok (.aload_n 0, 1) := by decide +kernel
theorem dX7_atom3_124 : decode cX7_atom3 124 = .ok (.getfield 169, 3) := by decide +kernel
theorem dX7_atom3_127 : decode cX7_atom3 127 = .ok (.ifCond .ne 30, 3) := by decide +kernel
theorem dX7_atom3_130 : decode cX7_atom3 130 = .ok (.aload_n 0, 1) := by decide +kernel
theorem dX7_atom3_131 : decode cX7_atom3 131 = .ok (.getfield 154, 3) := by decide +kernel
theorem dX7_atom3_134 : decode cX7_atom3 134 = .ok (.iconst 1, 1) := by decide +kernel
theorem dX7_atom3_135 : decode cX7_atom3 135 = .ok (.if_icmp .ne 22, 3) := by decide +kernel
theorem dX7_atom3_138 : decode cX7_atom3 138 = .ok (.aload_n 0, 1) := by decide +kernel
theorem dX7_atom3_139 : decode cX7_atom3 139 = .ok (.invokevirtual 217, 3) := by decide +kernel
theorem dX7_atom3_142 : decode cX7_atom3 142 = .ok (.istore_n 1, 1) := by decide +kernel
theorem dX7_atom3_143 : decode cX7_atom3 143 = .ok (.aload_n 0, 1) := by decide +kernel
theorem dX7_atom3_144 : decode cX7_atom3 144 = .ok (.getfield 169, 3) := by decide +kernel
theorem dX7_atom3_147 : decode cX7_atom3 147 = .ok (.ifCond .ne 14, 3) := by decide +kernel
theorem dX7_atom3_150 : decode cX7_atom3 150 = .ok (.aload_n 0, 1) := by decide +kernel
theorem dX7_atom3_151 : decode cX7_atom3 151 = .ok (.invokevirtual 185, 3) := by decide +kernel
theorem dX7_atom3_154 : decode cX7_atom3 154 = .ok (.goto 7, 3) := by decide +kernel
theorem dX7_atom3_157 : decode cX7_atom3 157 = .ok (.aload_n 0, 1) := by decide +kernel
theorem dX7_atom3_158 : decode cX7_atom3 158 = .ok (.invokevirtual 182, 3) := by decide +kernel
theorem dX7_atom3_161 : decode cX7_atom3 161 = .ok (.iload_n 1, 1) := by decide +kernel
theorem dX7_atom3_162 : decode cX7_atom3 162 = .ok (.ireturn, 1) := by decide +kernel
theorem dX7_term3_0 : decode cX7_term3 0 = .ok (.aload_n 0, 1) := by decide +kernel
theorem dX7_term3_1 : decode cX7_term3 1 = .ok (.invokevirtual 261, 3) := by decide +kernel
theorem dX7_term3_4 : decode cX7_term3 4 = .ok (.istore_n 1, 1) := by decide +kernel
theorem dX7_term3_5 : decode cX7_term3 5 = .ok (.aload_n 0, 1) := by decide +kernel
theorem dX7_term3_6 : decode cX7_term3 6 = .ok (.bipush 42, 2) := by decide +kernel
theorem dX7_term3_8 : decode cX7_term3 8 = .ok (.invokevirtual 210, 3) := by decide +kernel
theorem dX7_term3_11 : decode cX7_term3 11 = .ok (.ifCond .eq 17, 3) := by decide +kernel
theorem dX7_term3_14 : decode cX7_term3 14 = .ok (.aload_n 0, 1) := by decide +kernel
theorem dX7_term3_15 : decode cX7_term3 15 = .ok (.invokevirtual 185, 3) := by decide +kernel
theorem dX7_term3_18 : decode cX7_term3 18 = .ok (.iload_n 1, 1) := by decide +kernel
theorem dX7_term3_19 : decode cX7_term3 19 = .ok (.aload_n 0, 1) := by decide +kernel
theorem dX7_term3_20 : decode cX7_term3 20 = .ok (.invokevirtual 261, 3) := by decide +kernel
theorem dX7_term3_23 : decode cX7_term3 23 = .ok (.imul, 1) := by decide +kernel
theorem dX7_term3_24 : decode cX7_term3 24 = .ok (.istore_n 1, 1) := by decide +kernel
theorem dX7_term3_25 : decode cX7_term3 25 = .ok (.goto (-20), 3) := by decide +kernel
theorem dX7_term3_28 : decode cX7_term3 28 = .ok (.iload_n 1, 1) := by decide +kernel
theorem dX7_term3_29 : decode cX7_term3 29 = .ok (.ireturn, 1) := by decide +kernel
theorem dX7_added3_0 : decode cX7_added3 0 = .ok (.aload_n 0, 1) := by decide +kernel
theorem dX7_added3_1 : decode cX7_added3 1 = .ok (.invokevirtual 264, 3) := by decide +kernel
theorem dX7_added3_4 : decode cX7_added3 4 = .ok (.istore_n 1, 1) := by decide +kernel
theorem dX7_added3_5 : decode cX7_added3 5 = .ok (.aload_n 0, 1) := by decide +kernel
theorem dX7_added3_6 : decode cX7_added3 6 = .ok (.bipush 43, 2) := by decide +kernel
theorem dX7_added3_8 : decode cX7_added3 8 = .ok (.invokevirtual 210, 3) := by decide +kernel
theorem dX7_added3_11 : decode cX7_added3 11 = .ok (.ifCond .ne 12, 3) := by decide +kernel
theorem dX7_added3_14 : decode cX7_added3 14 = .ok (.aload_n 0, 1) := by decide +kernel
theorem dX7_added3_15 : decode cX7_added3 15 = .ok (.bipush 45, 2) := by decide +kernel
theorem dX7_added3_17 : decode cX7_added3 17 = .ok (.invokevirtual 210, 3) := by decide +kernel
theorem dX7_added3_20 : decode cX7_added3 20 = .ok (.ifCond .eq 46, 3) := by decide +kernel
theorem dX7_added3_23 : decode cX7_added3 23 = .ok (.aload_n 0, 1) := by decide +kernel
theorem dX7_added3_24 : decode cX7_added3 24 = .ok (.getfield 165, 3) := by decide +kernel
theorem dX7_added3_27 : decode cX7_added3 27 = .ok (.ldc2_w 227, 3) := by decide +kernel
theorem dX7_added3_30 : decode cX7_added3 30 = .ok (.lcmp, 1) := by decide +kernel
theorem dX7_added3_31 : decode cX7_added3 31 = .ok (.ifCond .ne 7, 3) := by decide +kernel
theorem dX7_added3_34 : decode cX7_added3 34 = .ok (.iconst 1, 1) := by decide +kernel
theorem dX7_added3_35 : decode cX7_added3 35 = .ok (.goto 4, 3) := by decide +kernel
theorem dX7_added3_38 : decode cX7_added3 38 = .ok (.iconst 0, 1) := by decide +kernel
theorem dX7_added3_39 : decode cX7_added3 39 = .ok (.istore_n 2, 1) := by decide +kernel
theorem dX7_added3_40 : decode cX7_added3 40 = .ok (.aload_n 0, 1) := by decide +kernel
theorem dX7_added3_41 : decode cX7_added3 41 = .ok (.invokevirtual 185, 3) := by decide +kernel
theorem dX7_added3_44 : decode cX7_added3 44 = .ok (.aload_n 0, 1) := by decide +kernel
theorem dX7_added3_45 : decode cX7_added3 45 = .ok (.invokevirtual 264, 3) := by decide +kernel
theorem dX7_added3_48 : decode cX7_added3 48 = .ok (.istore_n 3, 1) := by decide +kernel
theorem dX7_added3_49 : decode cX7_added3 49 = .ok (.iload_n 2, 1) := by decide +kernel
theorem dX7_added3_50 : decode cX7_added3 50 = .ok (.ifCond .eq 9, 3) := by decide +kernel
theorem dX7_added3_53 : decode cX7_added3 53 = .ok (.iload_n 1, 1) := by decide +kernel
theorem dX7_added3_54 : decode cX7_added3 54 = .ok (.iload_n 3, 1) := by decide +kernel
theorem dX7_added3_55 : decode cX7_added3 55 = .ok (.iadd, 1) := by decide +kernel
theorem dX7_added3_56 : decode cX7_added3 56 = .ok (.goto 6, 3) := by decide +kernel
theorem dX7_added3_59 : decode cX7_added3 59 = .ok (.iload_n 1, 1) := by decide +kernel
theorem dX7_added3_60 : decode cX7_added3 60 = .ok (.iload_n 3, 1) := by decide +kernel
theorem dX7_added3_61 : decode cX7_added3 61 = .ok (.isub, 1) := by decide +kernel
theorem dX7_added3_62 : decode cX7_added3 62 = .ok (.istore_n 1, 1) := by decide +kernel
theorem dX7_added3_63 : decode cX7_added3 63 = .ok (.goto (-58), 3) := by decide +kernel
theorem dX7_added3_66 : decode cX7_added3 66 = .ok (.iload_n 1, 1) := by decide +kernel
theorem dX7_added3_67 : decode cX7_added3 67 = .ok (.ireturn, 1) := by decide +kernel
theorem dX7_not3_0 : decode cX7_not3 0 = .ok (.aload_n 0, 1) := by decide +kernel
theorem dX7_not3_1 : decode cX7_not3 1 = .ok (.bipush 110, 2) := by decide +kernel
theorem dX7_not3_3 : decode cX7_not3 3 = .ok (.bipush 111, 2) := by decide +kernel
theorem dX7_not3_5 : decode cX7_not3 5 = .ok (.bipush 116, 2) := by decide +kernel
theorem dX7_not3_7 : decode cX7_not3 7 = .ok (.iconst 0, 1) := by decide +kernel
theorem dX7_not3_8 : decode cX7_not3 8 = .ok (.iconst 0, 1) := by decide +kernel
theorem dX7_not3_9 : decode cX7_not3 9 = .ok (.iconst 0, 1) := by decide +kernel
theorem dX7_not3_10 : decode cX7_not3 10 = .ok (.iconst 0, 1) := by decide +kernel
theorem dX7_not3_11 : decode cX7_not3 11 = .ok (.iconst 0, 1) := by decide +kernel
theorem dX7_not3_12 : decode cX7_not3 12 = .ok (.invokevirtual 188, 3) := by decide +kernel
theorem dX7_not3_15 : decode cX7_not3 15 = .ok (.ifCond .eq 37, 3) := by decide +kernel
theorem dX7_not3_18 : decode cX7_not3 18 = .ok (.aload_n 0, 1) := by decide +kernel
theorem dX7_not3_19 : decode cX7_not3 19 = .ok (.invokevirtual 213, 3) := by decide +kernel
theorem dX7_not3_22 : decode cX7_not3 22 = .ok (.ifCond .ne 5, 3) := by decide +kernel
theorem dX7_not3_25 : decode cX7_not3 25 = .ok (.iconst 0, 1) := by decide +kernel
theorem dX7_not3_26 : decode cX7_not3 26 = .ok (.ireturn, 1) := by decide +kernel
theorem dX7_not3_27 : decode cX7_not3 27 = .ok (.aload_n 0, 1) := by decide +kernel
theorem dX7_not3_28 : decode cX7_not3 28 = .ok (.invokevirtual 252, 3) := by decide +kernel
theorem dX7_not3_31 : decode cX7_not3 31 = .ok (.istore_n 1, 1) := by decide +kernel
theorem dX7_not3_32 : decode cX7_not3 32 = .ok (.aload_n 0, 1) := by decide +kernel
theorem dX7_not3_33 : decode cX7_not3 33 = .ok (.dup, 1) := by decide +kernel
theorem dX7_not3_34 : decode cX7_not3 34 = .ok (.getfield 179, 3) := by decide +kernel
theorem dX7_not3_37 : decode cX7_not3 37 = .ok (.iconst 1, 1) := by decide +kernel
theorem dX7_not3_38 : decode cX7_not3 38 = .ok (.isub, 1) := by decide +kernel
theorem dX7_not3_39 : decode cX7_not3 39 = .ok (.putfield 179, 3) := by decide +kernel
theorem dX7_not3_42 : decode cX7_not3 42 = .ok (.iload_n 1, 1) := by decide +kernel
theorem dX7_not3_43 : decode cX7_not3 43 = .ok (.ifCond .ne 7, 3) := by decide +kernel
theorem dX7_not3_46 : decode cX7_not3 46 = .ok (.iconst 1, 1) := by decide +kernel
theorem dX7_not3_47 : decode cX7_not3 47 = .ok (.goto 4, 3) := by decide +kernel
theorem dX7_not3_50 : decode cX7_not3 50 = .ok (.iconst 0, 1) := by decide +kernel
theorem dX7_not3_51 : decode cX7_not3 51 = .ok (.ireturn, 1) := by decide +kernel
theorem dX7_not3_52 : decode cX7_not3 52 = .ok (.aload_n 0, 1) := by decide +kernel
theorem dX7_not3_53 : decode cX7_not3 53 = .ok (.invokevirtual 267, 3) := by decide +kernel
theorem dX7_not3_56 : decode cX7_not3 56 = .ok (.istore_n 1, 1) := by decide +kernel
theorem dX7_not3_57 : decode cX7_not3 57 = .ok (.aload_n 0, 1) := by decide +kernel
theorem dX7_not3_58 : decode cX7_not3 58 = .ok (.bipush 60, 2) := by decide +kernel
theorem dX7_not3_60 : decode cX7_not3 60 = .ok (.invokevirtual 210, 3) := by decide +kernel
theorem dX7_not3_63 : decode cX7_not3 63 = .ok (.ifCond .ne 14, 3) := by decide +kernel
theorem dX7_not3_66 : decode cX7_not3 66 = .ok (.aload_n 0, 1) := by decide +kernel
theorem dX7_not3_67 : decode cX7_not3 67 = .ok (.bipush 61, 2) := by decide +kernel
theorem dX7_not3_69 : decode cX7_not3 69 = .ok (.invokevirtual 210, 3) := by decide +kernel
theorem dX7_not3_72 : decode cX7_not3 72 = .ok (.ifCond .ne 5, 3) := by decide +kernel
theorem dX7_not3_75 : decode cX7_not3 75 = .ok (.iload_n 1, 1) := by decide +kernel
theorem dX7_not3_76 : decode cX7_not3 76 = .ok (.ireturn, 1) := by decide +kernel
theorem dX7_not3_77 : decode cX7_not3 77 = .ok (.aload_n 0, 1) := by decide +kernel
theorem dX7_not3_78 : decode cX7_not3 78 = .ok (.getfield 165, 3) := by decide +kernel
theorem dX7_not3_81 : decode cX7_not3 81 = .ok (.ldc2_w 232, 3) := by decide +kernel
theorem dX7_not3_84 : decode cX7_not3 84 = .ok (.lcmp, 1) := by decide +kernel
theorem dX7_not3_85 : decode cX7_not3 85 = .ok (.ifCond .ne 7, 3) := by decide +kernel
theorem dX7_not3_88 : decode cX7_not3 88 = .ok (.iconst 1, 1) := by decide +kernel
theorem dX7_not3_89 : decode cX7_not3 89 = .ok (.goto 4, 3) := by decide +kernel
theorem dX7_not3_92 : decode cX7_not3 92 = .ok (.iconst 0, 1) := by decide +kernel
theorem dX7_not3_93 : decode cX7_not3 93 = .ok (.istore_n 2, 1) := by decide +kernel
theorem dX7_not3_94 : decode cX7_not3 94 = .ok (.aload_n 0, 1) := by decide +kernel
theorem dX7_not3_95 : decode cX7_not3 95 = .ok (.invokevirtual 185, 3) := by decide +kernel
theorem dX7_not3_98 : decode cX7_not3 98 = .ok (.aload_n 0, 1) := by decide +kernel
theorem dX7_not3_99 : decode cX7_not3 99 = .ok (.invokevirtual 267, 3) := by decide +kernel
theorem dX7_not3_102 : decode cX7_not3 102 = .ok (.istore_n 3, 1) := by decide +kernel
theorem dX7_not3_103 : decode cX7_not3 103 = .ok (.iload_n 2, 1) := by decide +kernel
theorem dX7_not3_104 : decode cX7_not3 104 = .ok (.ifCond .eq 11, 3) := by decide +kernel
theorem dX7_not3_107 : decode cX7_not3 107 = .ok (.iload_n 1, 1) := by decide +kernel
theorem dX7_not3_108 : decode cX7_not3 108 = .ok (.iload_n 3, 1) := by decide +kernel
theorem dX7_not3_109 : decode cX7_not3 109 = .ok (.if_icmp .ge 15, 3) := by decide +kernel
theorem dX7_not3_112 : decode cX7_not3 112 = .ok (.goto 8, 3) := by decide +kernel
theorem dX7_not3_115 : decode cX7_not3 115 = .ok (.iload_n 1, 1) := by decide +kernel
theorem dX7_not3_116 : decode cX7_not3 116 = .ok (.iload_n 3, 1) := by decide +kernel
theorem dX7_not3_117 : decode cX7_not3 117 = .ok (.if_icmp .ne 7, 3) := by decide +kernel
theorem dX7_not3_120 : decode cX7_not3 120 = .ok (.iconst 1, 1) := by decide +kernel
theorem dX7_not3_121 : decode cX7_not3 121 = .ok (.goto 4, 3) := by decide +kernel
theorem dX7_not3_124 : decode cX7_not3 124 = .ok (.iconst 0, 1) := by decide +kernel
theorem dX7_not3_125 : decode cX7_not3 125 = .ok (.ireturn, 1) := by decide +kernel
theorem dX7_both3_0 : decode cX7_both3 0 = .ok (.aload_n 0, 1) := by decide +kernel
theorem dX7_both3_1 : decode cX7_both3 1 = .ok (.invokevirtual 270, 3) := by decide +kernel
theorem dX7_both3_4 : decode cX7_both3 4 = .ok (.istore_n 1, 1) := by decide +kernel
theorem dX7_both3_5 : decode cX7_both3 5 = .ok (.aload_n 0, 1) := by decide +kernel
theorem dX7_both3_6 : decode cX7_both3 6 = .ok (.bipush 97, 2) := by decide +kernel
theorem dX7_both3_8 : decode cX7_both3 8 = .ok (.bipush 110, 2) := by decide +kernel
theorem dX7_both3_10 : decode cX7_both3 10 = .ok (.bipush 100, 2) := by decide +kernel
theorem dX7_both3_12 : decode cX7_both3 12 = .ok (.iconst 0, 1) := by decide +kernel
theorem dX7_both3_13 : decode cX7_both3 13 = .ok (.iconst 0, 1) := by decide +kernel
theorem dX7_both3_14 : decode cX7_both3 14 = .ok (.iconst 0, 1) := by decide +kernel
theorem dX7_both3_15 : decode cX7_both3 15 = .ok (.iconst 0, 1) := by decide +kernel
theorem dX7_both3_16 : decode cX7_both3 16 = .ok (.iconst 0, 1) := by decide +kernel
theorem dX7_both3_17 : decode cX7_both3 17 = .ok (.invokevirtual 188, 3) := by decide +kernel
theorem dX7_both3_20 : decode cX7_both3 20 = .ok (.ifCond .eq 29, 3) := by decide +kernel
theorem dX7_both3_23 : decode cX7_both3 23 = .ok (.aload_n 0, 1) := by decide +kernel
theorem dX7_both3_24 : decode cX7_both3 24 = .ok (.invokevirtual 185, 3) := by decide +kernel
theorem dX7_both3_27 : decode cX7_both3 27 = .ok (.aload_n 0, 1) := by decide +kernel
theorem dX7_both3_28 : decode cX7_both3 28 = .ok (.invokevirtual 270, 3) := by decide +kernel
theorem dX7_both3_31 : decode cX7_both3 31 = .ok (.istore_n 2, 1) := by decide +kernel
theorem dX7_both3_32 : decode cX7_both3 32 = .ok (.iload_n 1, 1) := by decide +kernel
theorem dX7_both3_33 : decode cX7_both3 33 = .ok (.ifCond .eq 11, 3) := by decide +kernel
theorem dX7_both3_36 : decode cX7_both3 36 = .ok (.iload_n 2, 1) := by decide +kernel
theorem dX7_both3_37 : decode cX7_both3 37 = .ok (.ifCond .eq 7, 3) := by decide +kernel
theorem dX7_both3_40 : decode cX7_both3 40 = .ok (.iconst 1, 1) := by decide +kernel
theorem dX7_both3_41 : decode cX7_both3 41 = .ok (.goto 4, 3) := by decide +kernel
theorem dX7_both3_44 : decode cX7_both3 44 = .ok (.iconst 0, 1) := by decide +kernel
theorem dX7_both3_45 : decode cX7_both3 45 = .ok (.istore_n 1, 1) := by decide +kernel
theorem dX7_both3_46 : decode cX7_both3 46 = .ok (.goto (-41), 3) := by decide +kernel
theorem dX7_both3_49 : decode cX7_both3 49 = .ok (.iload_n 1, 1) := by decide +kernel
theorem dX7_both3_50 : decode cX7_both3 50 = .ok (.ireturn, 1) := by decide +kernel
theorem dX7_either3_0 : decode cX7_either3 0 = .ok (.aload_n 0, 1) := by decide +kernel
theorem dX7_either3_1 : decode cX7_either3 1 = .ok (.invokevirtual 273, 3) := by decide +kernel
theorem dX7_either3_4 : decode cX7_either3 4 = .ok (.istore_n 1, 1) := by decide +kernel
theorem dX7_either3_5 : decode cX7_either3 5 = .ok (.aload_n 0, 1) := by decide +kernel
theorem dX7_either3_6 : decode cX7_either3 6 = .ok (.bipush 111, 2) := by decide +kernel
theorem dX7_either3_8 : decode cX7_either3 8 = .ok (.bipush 114, 2) := by decide +kernel
theorem dX7_either3_10 : decode cX7_either3 10 = .ok (.iconst 0, 1) := by decide +kernel
theorem dX7_either3_11 : decode cX7_either3 11 = .ok (.iconst 0, 1) := by decide +kernel
theorem dX7_either3_12 : decode cX7_either3 12 = .ok (.iconst 0, 1) := by decide +kernel
theorem dX7_either3_13 : decode cX7_either3 13 = .ok (.iconst 0, 1) := by decide +kernel
theorem dX7_either3_14 : decode cX7_either3 14 = .ok (.iconst 0, 1) := by decide +kernel
theorem dX7_either3_15 : decode cX7_either3 15 = .ok (.iconst 0, 1) := by decide +kernel
theorem dX7_either3_16 : decode cX7_either3 16 = .ok (.invokevirtual 188, 3) := by decide +kernel
theorem dX7_either3_19 : decode cX7_either3 19 = .ok (.ifCond .eq 29, 3) := by decide +kernel
theorem dX7_either3_22 : decode cX7_either3 22 = .ok (.aload_n 0, 1) := by decide +kernel
theorem dX7_either3_23 : decode cX7_either3 23 = .ok (.invokevirtual 185, 3) := by decide +kernel
theorem dX7_either3_26 : decode cX7_either3 26 = .ok (.aload_n 0, 1) := by decide +kernel
theorem dX7_either3_27 : decode cX7_either3 27 = .ok (.invokevirtual 273, 3) := by decide +kernel
theorem dX7_either3_30 : decode cX7_either3 30 = .ok (.istore_n 2, 1) := by decide +kernel
theorem dX7_either3_31 : decode cX7_either3 31 = .ok (.iload_n 1, 1) := by decide +kernel
theorem dX7_either3_32 : decode cX7_either3 32 = .ok (.ifCond .ne 7, 3) := by decide +kernel
theorem dX7_either3_35 : decode cX7_either3 35 = .ok (.iload_n 2, 1) := by decide +kernel
theorem dX7_either3_36 : decode cX7_either3 36 = .ok (.ifCond .eq 7, 3) := by decide +kernel
theorem dX7_either3_39 : decode cX7_either3 39 = .ok (.iconst 1, 1) := by decide +kernel
theorem dX7_either3_40 : decode cX7_either3 40 = .ok (.goto 4, 3) := by decide +kernel
theorem dX7_either3_43 : decode cX7_either3 43 = .ok (.iconst 0, 1) := by decide +kernel
theorem dX7_either3_44 : decode cX7_either3 44 = .ok (.istore_n 1, 1) := by decide +kernel
theorem dX7_either3_45 : decode cX7_either3 45 = .ok (.goto (-40), 3) := by decide +kernel
theorem dX7_either3_48 : decode cX7_either3 48 = .ok (.iload_n 1, 1) := by decide +kernel
theorem dX7_either3_49 : decode cX7_either3 49 = .ok (.ireturn, 1) := by decide +kernel
section SIM
variable {p : Program} {l : Launch} {e : Env} {R : Room} {s : State} {m : MethodId} {args : Array Value} {below : List Frame} {meth : Method} {c : Code} {D : va_G} {cA : Nat → ClassId} {ad : Nat → Nat} {bs n0 z0 d : Nat} {H0 : Heap} {rv : Option Value} {hf : aM} {E : Nat → List Value → aM → Option Value → aM → Prop} {X : aXt × Value}

set_option maxHeartbeats 4000000 in
set_option maxRecDepth 20000 in
theorem sm_X7_name (hC : aC p s m args c cX7_name 1 RX7 D cA ad bs n0 H0 X) (hF : ∀ ml, ml ≤ 41 → aFit R d ml) (hRm : 16 ≤ R.frames ∧ 1000 ≤ R.locals) (hE : aCalls l D cA ad bs X d E) (hr : meth.sig.returnType = (some .int)) (hlk : meth.locks = false) : aSims (fun f i => aSim p l e R s m args below meth c (aEnd below s args D cA ad bs n0 z0 rv hf) 1 D cA ad bs n0 z0 H0 (apc pc_X7_name) rv hf E f i) (cd_X7_name) 0 := by
  unfold cd_X7_name
  refine aSims_c (i := 0) (s_aload_n hC dX7_name_0 rfl rfl) ?_
  refine aSims_c (i := 1) (s_bipush hC dX7_name_1 rfl rfl rfl) ?_
  refine aSims_c (i := 2) (s_bipush hC dX7_name_3 rfl rfl rfl) ?_
  refine aSims_c (i := 3) (s_bipush hC dX7_name_5 rfl rfl rfl) ?_
  refine aSims_c (i := 4) (s_bipush hC dX7_name_7 rfl rfl rfl) ?_
  refine aSims_c (i := 5) (s_bipush hC dX7_name_9 rfl rfl rfl) ?_
  refine aSims_c (i := 6) (s_iconst hC dX7_name_11 rfl rfl rfl) ?_
  refine aSims_c (i := 7) (s_iconst hC dX7_name_12 rfl rfl rfl) ?_
  refine aSims_c (i := 8) (s_iconst hC dX7_name_13 rfl rfl rfl) ?_
  refine aSims_c (i := 9) (s_callV (n := 8) hC dX7_name_14 rfl rfl (hE 129 _ _ _ _ rfl) (hF _ (by decide)) w_1036 w_1033 w_1035 w_38 w_109 rfl (by decide +kernel)) ?_
  refine aSims_c (i := 10) (s_if_eq hC dX7_name_17 rfl rfl rfl) ?_
  refine aSims_c (i := 11) (s_aload_n hC dX7_name_20 rfl rfl) ?_
  refine aSims_c (i := 12) (s_get hC dX7_name_21 rfl rfl w_855 rfl rfl inB7 (by decide)) ?_
  refine aSims_c (i := 13) (s_iret hC dX7_name_24 rfl hr hlk nar_qI) ?_
  refine aSims_c (i := 14) (s_aload_n hC dX7_name_25 rfl rfl) ?_
  refine aSims_c (i := 15) (s_bipush hC dX7_name_26 rfl rfl rfl) ?_
  refine aSims_c (i := 16) (s_bipush hC dX7_name_28 rfl rfl rfl) ?_
  refine aSims_c (i := 17) (s_bipush hC dX7_name_30 rfl rfl rfl) ?_
  refine aSims_c (i := 18) (s_bipush hC dX7_name_32 rfl rfl rfl) ?_
  refine aSims_c (i := 19) (s_iconst hC dX7_name_34 rfl rfl rfl) ?_
  refine aSims_c (i := 20) (s_iconst hC dX7_name_35 rfl rfl rfl) ?_
  refine aSims_c (i := 21) (s_iconst hC dX7_name_36 rfl rfl rfl) ?_
  refine aSims_c (i := 22) (s_iconst hC dX7_name_37 rfl rfl rfl) ?_
  refine aSims_c (i := 23) (s_callV (n := 8) hC dX7_name_38 rfl rfl (hE 129 _ _ _ _ rfl) (hF _ (by decide)) w_1036 w_1033 w_1035 w_38 w_109 rfl (by decide +kernel)) ?_
  refine aSims_c (i := 24) (s_if_eq hC dX7_name_41 rfl rfl rfl) ?_
  refine aSims_c (i := 25) (s_aload_n hC dX7_name_44 rfl rfl) ?_
  refine aSims_c (i := 26) (s_get hC dX7_name_45 rfl rfl w_856 rfl rfl inB7 (by decide)) ?_
  refine aSims_c (i := 27) (s_iret hC dX7_name_48 rfl hr hlk nar_qI) ?_
  refine aSims_c (i := 28) (s_aload_n hC dX7_name_49 rfl rfl) ?_
  refine aSims_c (i := 29) (s_bipush hC dX7_name_50 rfl rfl rfl) ?_
  refine aSims_c (i := 30) (s_bipush hC dX7_name_52 rfl rfl rfl) ?_
  refine aSims_c (i := 31) (s_bipush hC dX7_name_54 rfl rfl rfl) ?_
  refine aSims_c (i := 32) (s_bipush hC dX7_name_56 rfl rfl rfl) ?_
  refine aSims_c (i := 33) (s_iconst hC dX7_name_58 rfl rfl rfl) ?_
  refine aSims_c (i := 34) (s_iconst hC dX7_name_59 rfl rfl rfl) ?_
  refine aSims_c (i := 35) (s_iconst hC dX7_name_60 rfl rfl rfl) ?_
  refine aSims_c (i := 36) (s_iconst hC dX7_name_61 rfl rfl rfl) ?_
  refine aSims_c (i := 37) (s_callV (n := 8) hC dX7_name_62 rfl rfl (hE 129 _ _ _ _ rfl) (hF _ (by decide)) w_1036 w_1033 w_1035 w_38 w_109 rfl (by decide +kernel)) ?_
  refine aSims_c (i := 38) (s_if_eq hC dX7_name_65 rfl rfl rfl) ?_
  refine aSims_c (i := 39) (s_aload_n hC dX7_name_68 rfl rfl) ?_
  refine aSims_c (i := 40) (s_get hC dX7_name_69 rfl rfl w_857 rfl rfl inB7 (by decide)) ?_
  refine aSims_c (i := 41) (s_iret hC dX7_name_72 rfl hr hlk nar_qI) ?_
  refine aSims_c (i := 42) (s_aload_n hC dX7_name_73 rfl rfl) ?_
  refine aSims_c (i := 43) (s_bipush hC dX7_name_74 rfl rfl rfl) ?_
  refine aSims_c (i := 44) (s_bipush hC dX7_name_76 rfl rfl rfl) ?_
  refine aSims_c (i := 45) (s_bipush hC dX7_name_78 rfl rfl rfl) ?_
  refine aSims_c (i := 46) (s_bipush hC dX7_name_80 rfl rfl rfl) ?_
  refine aSims_c (i := 47) (s_bipush hC dX7_name_82 rfl rfl rfl) ?_
  refine aSims_c (i := 48) (s_bipush hC dX7_name_84 rfl rfl rfl) ?_
  refine aSims_c (i := 49) (s_iconst hC dX7_name_86 rfl rfl rfl) ?_
  refine aSims_c (i := 50) (s_iconst hC dX7_name_87 rfl rfl rfl) ?_
  refine aSims_c (i := 51) (s_callV (n := 8) hC dX7_name_88 rfl rfl (hE 129 _ _ _ _ rfl) (hF _ (by decide)) w_1036 w_1033 w_1035 w_38 w_109 rfl (by decide +kernel)) ?_
  refine aSims_c (i := 52) (s_if_eq hC dX7_name_91 rfl rfl rfl) ?_
  refine aSims_c (i := 53) (s_aload_n hC dX7_name_94 rfl rfl) ?_
  refine aSims_c (i := 54) (s_get hC dX7_name_95 rfl rfl w_858 rfl rfl inB7 (by decide)) ?_
  refine aSims_c (i := 55) (s_iret hC dX7_name_98 rfl hr hlk nar_qI) ?_
  refine aSims_c (i := 56) (s_aload_n hC dX7_name_99 rfl rfl) ?_
  refine aSims_c (i := 57) (s_bipush hC dX7_name_100 rfl rfl rfl) ?_
  refine aSims_c (i := 58) (s_bipush hC dX7_name_102 rfl rfl rfl) ?_
  refine aSims_c (i := 59) (s_bipush hC dX7_name_104 rfl rfl rfl) ?_
  refine aSims_c (i := 60) (s_iconst hC dX7_name_106 rfl rfl rfl) ?_
  refine aSims_c (i := 61) (s_iconst hC dX7_name_107 rfl rfl rfl) ?_
  refine aSims_c (i := 62) (s_iconst hC dX7_name_108 rfl rfl rfl) ?_
  refine aSims_c (i := 63) (s_iconst hC dX7_name_109 rfl rfl rfl) ?_
  refine aSims_c (i := 64) (s_iconst hC dX7_name_110 rfl rfl rfl) ?_
  refine aSims_c (i := 65) (s_callV (n := 8) hC dX7_name_111 rfl rfl (hE 129 _ _ _ _ rfl) (hF _ (by decide)) w_1036 w_1033 w_1035 w_38 w_109 rfl (by decide +kernel)) ?_
  refine aSims_c (i := 66) (s_if_eq hC dX7_name_114 rfl rfl rfl) ?_
  refine aSims_c (i := 67) (s_aload_n hC dX7_name_117 rfl rfl) ?_
  refine aSims_c (i := 68) (s_get hC dX7_name_118 rfl rfl w_859 rfl rfl inB7 (by decide)) ?_
  refine aSims_c (i := 69) (s_iret hC dX7_name_121 rfl hr hlk nar_qI) ?_
  refine aSims_c (i := 70) (s_aload_n hC dX7_name_122 rfl rfl) ?_
  refine aSims_c (i := 71) (s_bipush hC dX7_name_123 rfl rfl rfl) ?_
  refine aSims_c (i := 72) (s_bipush hC dX7_name_125 rfl rfl rfl) ?_
  refine aSims_c (i := 73) (s_bipush hC dX7_name_127 rfl rfl rfl) ?_
  refine aSims_c (i := 74) (s_bipush hC dX7_name_129 rfl rfl rfl) ?_
  refine aSims_c (i := 75) (s_iconst hC dX7_name_131 rfl rfl rfl) ?_
  refine aSims_c (i := 76) (s_iconst hC dX7_name_132 rfl rfl rfl) ?_
  refine aSims_c (i := 77) (s_iconst hC dX7_name_133 rfl rfl rfl) ?_
  refine aSims_c (i := 78) (s_iconst hC dX7_name_134 rfl rfl rfl) ?_
  refine aSims_c (i := 79) (s_callV (n := 8) hC dX7_name_135 rfl rfl (hE 129 _ _ _ _ rfl) (hF _ (by decide)) w_1036 w_1033 w_1035 w_38 w_109 rfl (by decide +kernel)) ?_
  refine aSims_c (i := 80) (s_if_eq hC dX7_name_138 rfl rfl rfl) ?_
  refine aSims_c (i := 81) (s_aload_n hC dX7_name_141 rfl rfl) ?_
  refine aSims_c (i := 82) (s_get hC dX7_name_142 rfl rfl w_860 rfl rfl inB7 (by decide)) ?_
  refine aSims_c (i := 83) (s_iret hC dX7_name_145 rfl hr hlk nar_qI) ?_
  refine aSims_c (i := 84) (s_aload_n hC dX7_name_146 rfl rfl) ?_
  refine aSims_c (i := 85) (s_callV (n := 0) hC dX7_name_147 rfl rfl (hE 127 _ _ _ _ rfl) (hF _ (by decide)) w_1048 w_1045 w_1047 w_41 w_109 rfl (by decide +kernel)) ?_
  refine aSims_c (i := 86) (s_iconst hC dX7_name_150 rfl rfl rfl) ?_
  refine aSims_c (i := 87) (s_iret hC dX7_name_151 rfl hr hlk nar_qI) ?_
  exact aSims_n
set_option maxHeartbeats 4000000 in
set_option maxRecDepth 20000 in
theorem sm_X7_atom5 (hC : aC p s m args c cX7_atom5 2 RX7 D cA ad bs n0 H0 X) (hF : ∀ ml, ml ≤ 41 → aFit R d ml) (hRm : 16 ≤ R.frames ∧ 1000 ≤ R.locals) (hE : aCalls l D cA ad bs X d E) (hr : meth.sig.returnType = (some .int)) (hlk : meth.locks = false) : aSims (fun f i => aSim p l e R s m args below meth c (aEnd below s args D cA ad bs n0 z0 rv hf) 2 D cA ad bs n0 z0 H0 (apc pc_X7_atom5) rv hf E f i) (cd_X7_atom5) 0 := by
  unfold cd_X7_atom5
  refine aSims_c (i := 0) (s_iconst hC dX7_atom5_0 rfl rfl rfl) ?_
  refine aSims_c (i := 1) (s_istore_n hC dX7_atom5_1 rfl rfl) ?_
  refine aSims_c (i := 2) (s_aload_n hC dX7_atom5_2 rfl rfl) ?_
  refine aSims_c (i := 3) (s_bipush hC dX7_atom5_3 rfl rfl rfl) ?_
  refine aSims_c (i := 4) (s_callV (n := 1) hC dX7_atom5_5 rfl rfl (hE 130 _ _ _ _ rfl) (hF _ (by decide)) w_1100 w_1097 w_1099 w_54 w_109 rfl (by decide +kernel)) ?_
  refine aSims_c (i := 5) (s_if_eq hC dX7_atom5_8 rfl rfl rfl) ?_
  refine aSims_c (i := 6) (s_aload_n hC dX7_atom5_11 rfl rfl) ?_
  refine aSims_c (i := 7) (s_callV (n := 0) hC dX7_atom5_12 rfl rfl (hE 131 _ _ _ _ rfl) (hF _ (by decide)) w_1064 w_1061 w_1063 w_45 w_109 rfl (by decide +kernel)) ?_
  refine aSims_c (i := 8) (s_pop hC dX7_atom5_15 rfl rfl) ?_
  refine aSims_c (i := 9) (s_goto hC dX7_atom5_16 rfl rfl) ?_
  refine aSims_c (i := 10) (s_aload_n hC dX7_atom5_19 rfl rfl) ?_
  refine aSims_c (i := 11) (s_bipush hC dX7_atom5_20 rfl rfl rfl) ?_
  refine aSims_c (i := 12) (s_callV (n := 1) hC dX7_atom5_22 rfl rfl (hE 130 _ _ _ _ rfl) (hF _ (by decide)) w_1100 w_1097 w_1099 w_54 w_109 rfl (by decide +kernel)) ?_
  refine aSims_c (i := 13) (s_if_eq hC dX7_atom5_25 rfl rfl rfl) ?_
  refine aSims_c (i := 14) (s_aload_n hC dX7_atom5_28 rfl rfl) ?_
  refine aSims_c (i := 15) (s_callV (n := 0) hC dX7_atom5_29 rfl rfl (hE 131 _ _ _ _ rfl) (hF _ (by decide)) w_1064 w_1061 w_1063 w_45 w_109 rfl (by decide +kernel)) ?_
  refine aSims_c (i := 16) (s_pop hC dX7_atom5_32 rfl rfl) ?_
  refine aSims_c (i := 17) (s_goto hC dX7_atom5_33 rfl rfl) ?_
  refine aSims_c (i := 18) (s_aload_n hC dX7_atom5_36 rfl rfl) ?_
  refine aSims_c (i := 19) (s_get hC dX7_atom5_37 rfl rfl w_868 rfl rfl inB7 (by decide)) ?_
  refine aSims_c (i := 20) (s_if_ne hC dX7_atom5_40 rfl rfl rfl) ?_
  refine aSims_c (i := 21) (s_aload_n hC dX7_atom5_43 rfl rfl) ?_
  refine aSims_c (i := 22) (s_get hC dX7_atom5_44 rfl rfl w_864 rfl rfl inB7 (by decide)) ?_
  refine aSims_c (i := 23) (s_iconst hC dX7_atom5_47 rfl rfl rfl) ?_
  refine aSims_c (i := 24) (s_icmp_ne hC dX7_atom5_48 rfl rfl rfl) ?_
  refine aSims_c (i := 25) (s_aload_n hC dX7_atom5_51 rfl rfl) ?_
  refine aSims_c (i := 26) (s_get hC dX7_atom5_52 rfl rfl w_866 rfl rfl inB7 (by decide)) ?_
  refine aSims_c (i := 27) (s_l2i hC dX7_atom5_55 rfl rfl) ?_
  refine aSims_c (i := 28) (s_istore_n hC dX7_atom5_56 rfl rfl) ?_
  refine aSims_c (i := 29) (s_aload_n hC dX7_atom5_57 rfl rfl) ?_
  refine aSims_c (i := 30) (s_callV (n := 0) hC dX7_atom5_58 rfl rfl (hE 126 _ _ _ _ rfl) (hF _ (by decide)) w_1024 w_1021 w_1023 w_36 w_109 rfl (by decide +kernel)) ?_
  refine aSims_c (i := 31) (s_goto hC dX7_atom5_61 rfl rfl) ?_
  refine aSims_c (i := 32) (s_aload_n hC dX7_atom5_64 rfl rfl) ?_
  refine aSims_c (i := 33) (s_get hC dX7_atom5_65 rfl rfl w_868 rfl rfl inB7 (by decide)) ?_
  refine aSims_c (i := 34) (s_if_ne hC dX7_atom5_68 rfl rfl rfl) ?_
  refine aSims_c (i := 35) (s_aload_n hC dX7_atom5_71 rfl rfl) ?_
  refine aSims_c (i := 36) (s_get hC dX7_atom5_72 rfl rfl w_864 rfl rfl inB7 (by decide)) ?_
  refine aSims_c (i := 37) (s_iconst hC dX7_atom5_75 rfl rfl rfl) ?_
  refine aSims_c (i := 38) (s_icmp_ne hC dX7_atom5_76 rfl rfl rfl) ?_
  refine aSims_c (i := 39) (s_aload_n hC dX7_atom5_79 rfl rfl) ?_
  refine aSims_c (i := 40) (s_callV (n := 0) hC dX7_atom5_80 rfl rfl (hE 132 _ _ _ _ rfl) (hF _ (by decide)) w_1104 w_1101 w_1103 w_55 w_109 rfl (by decide +kernel)) ?_
  refine aSims_c (i := 41) (s_istore_n hC dX7_atom5_83 rfl rfl) ?_
  refine aSims_c (i := 42) (s_aload_n hC dX7_atom5_84 rfl rfl) ?_
  refine aSims_c (i := 43) (s_get hC dX7_atom5_85 rfl rfl w_868 rfl rfl inB7 (by decide)) ?_
  refine aSims_c (i := 44) (s_if_ne hC dX7_atom5_88 rfl rfl rfl) ?_
  refine aSims_c (i := 45) (s_aload_n hC dX7_atom5_91 rfl rfl) ?_
  refine aSims_c (i := 46) (s_callV (n := 0) hC dX7_atom5_92 rfl rfl (hE 126 _ _ _ _ rfl) (hF _ (by decide)) w_1024 w_1021 w_1023 w_36 w_109 rfl (by decide +kernel)) ?_
  refine aSims_c (i := 47) (s_goto hC dX7_atom5_95 rfl rfl) ?_
  refine aSims_c (i := 48) (s_aload_n hC dX7_atom5_98 rfl rfl) ?_
  refine aSims_c (i := 49) (s_callV (n := 0) hC dX7_atom5_99 rfl rfl (hE 127 _ _ _ _ rfl) (hF _ (by decide)) w_1048 w_1045 w_1047 w_41 w_109 rfl (by decide +kernel)) ?_
  refine aSims_c (i := 50) (s_iload_n hC dX7_atom5_102 rfl rfl) ?_
  refine aSims_c (i := 51) (s_iret hC dX7_atom5_103 rfl hr hlk nar_qI) ?_
  exact aSims_n
set_option maxHeartbeats 4000000 in
set_option maxRecDepth 20000 in
theorem sm_X7_term5 (hC : aC p s m args c cX7_term5 2 RX7 D cA ad bs n0 H0 X) (hF : ∀ ml, ml ≤ 41 → aFit R d ml) (hRm : 16 ≤ R.frames ∧ 1000 ≤ R.locals) (hE : aCalls l D cA ad bs X d E) (hr : meth.sig.returnType = (some .int)) (hlk : meth.locks = false) : aSims (fun f i => aSim p l e R s m args below meth c (aEnd below s args D cA ad bs n0 z0 rv hf) 2 D cA ad bs n0 z0 H0 (apc pc_X7_term5) rv hf E f i) (cd_X7_term5) 0 := by
  unfold cd_X7_term5
  refine aSims_c (i := 0) (s_aload_n hC dX7_term5_0 rfl rfl) ?_
  refine aSims_c (i := 1) (s_callV (n := 0) hC dX7_term5_1 rfl rfl (hE 133 _ _ _ _ rfl) (hF _ (by decide)) w_1096 w_1093 w_1095 w_53 w_109 rfl (by decide +kernel)) ?_
  refine aSims_c (i := 2) (s_istore_n hC dX7_term5_4 rfl rfl) ?_
  refine aSims_c (i := 3) (s_aload_n hC dX7_term5_5 rfl rfl) ?_
  refine aSims_c (i := 4) (s_bipush hC dX7_term5_6 rfl rfl rfl) ?_
  refine aSims_c (i := 5) (s_callV (n := 1) hC dX7_term5_8 rfl rfl (hE 130 _ _ _ _ rfl) (hF _ (by decide)) w_1100 w_1097 w_1099 w_54 w_109 rfl (by decide +kernel)) ?_
  refine aSims_c (i := 6) (s_if_eq hC dX7_term5_11 rfl rfl rfl) ?_
  refine aSims_c (i := 7) (s_aload_n hC dX7_term5_14 rfl rfl) ?_
  refine aSims_c (i := 8) (s_callV (n := 0) hC dX7_term5_15 rfl rfl (hE 126 _ _ _ _ rfl) (hF _ (by decide)) w_1024 w_1021 w_1023 w_36 w_109 rfl (by decide +kernel)) ?_
  refine aSims_c (i := 9) (s_iload_n hC dX7_term5_18 rfl rfl) ?_
  refine aSims_c (i := 10) (s_aload_n hC dX7_term5_19 rfl rfl) ?_
  refine aSims_c (i := 11) (s_callV (n := 0) hC dX7_term5_20 rfl rfl (hE 133 _ _ _ _ rfl) (hF _ (by decide)) w_1096 w_1093 w_1095 w_53 w_109 rfl (by decide +kernel)) ?_
  refine aSims_c (i := 12) (s_imul hC dX7_term5_23 rfl rfl) ?_
  refine aSims_c (i := 13) (s_istore_n hC dX7_term5_24 rfl rfl) ?_
  refine aSims_c (i := 14) (s_goto hC dX7_term5_25 rfl rfl) ?_
  refine aSims_c (i := 15) (s_iload_n hC dX7_term5_28 rfl rfl) ?_
  refine aSims_c (i := 16) (s_iret hC dX7_term5_29 rfl hr hlk nar_qI) ?_
  exact aSims_n
set_option maxHeartbeats 4000000 in
set_option maxRecDepth 20000 in
theorem sm_X7_added5 (hC : aC p s m args c cX7_added5 4 RX7 D cA ad bs n0 H0 X) (hF : ∀ ml, ml ≤ 41 → aFit R d ml) (hRm : 16 ≤ R.frames ∧ 1000 ≤ R.locals) (hE : aCalls l D cA ad bs X d E) (hr : meth.sig.returnType = (some .int)) (hlk : meth.locks = false) : aSims (fun f i => aSim p l e R s m args below meth c (aEnd below s args D cA ad bs n0 z0 rv hf) 4 D cA ad bs n0 z0 H0 (apc pc_X7_added5) rv hf E f i) (cd_X7_added5) 0 := by
  unfold cd_X7_added5
  refine aSims_c (i := 0) (s_aload_n hC dX7_added5_0 rfl rfl) ?_
  refine aSims_c (i := 1) (s_callV (n := 0) hC dX7_added5_1 rfl rfl (hE 134 _ _ _ _ rfl) (hF _ (by decide)) w_1092 w_1089 w_1091 w_52 w_109 rfl (by decide +kernel)) ?_
  refine aSims_c (i := 2) (s_istore_n hC dX7_added5_4 rfl rfl) ?_
  refine aSims_c (i := 3) (s_aload_n hC dX7_added5_5 rfl rfl) ?_
  refine aSims_c (i := 4) (s_bipush hC dX7_added5_6 rfl rfl rfl) ?_
  refine aSims_c (i := 5) (s_callV (n := 1) hC dX7_added5_8 rfl rfl (hE 130 _ _ _ _ rfl) (hF _ (by decide)) w_1100 w_1097 w_1099 w_54 w_109 rfl (by decide +kernel)) ?_
  refine aSims_c (i := 6) (s_if_ne hC dX7_added5_11 rfl rfl rfl) ?_
  refine aSims_c (i := 7) (s_aload_n hC dX7_added5_14 rfl rfl) ?_
  refine aSims_c (i := 8) (s_bipush hC dX7_added5_15 rfl rfl rfl) ?_
  refine aSims_c (i := 9) (s_callV (n := 1) hC dX7_added5_17 rfl rfl (hE 130 _ _ _ _ rfl) (hF _ (by decide)) w_1100 w_1097 w_1099 w_54 w_109 rfl (by decide +kernel)) ?_
  refine aSims_c (i := 10) (s_if_eq hC dX7_added5_20 rfl rfl rfl) ?_
  refine aSims_c (i := 11) (s_aload_n hC dX7_added5_23 rfl rfl) ?_
  refine aSims_c (i := 12) (s_get hC dX7_added5_24 rfl rfl w_866 rfl rfl inB7 (by decide)) ?_
  refine aSims_c (i := 13) (s_ldc2 hC dX7_added5_27 w_1105 rfl rfl) ?_
  refine aSims_c (i := 14) (s_lcmp hC dX7_added5_30 rfl rfl) ?_
  refine aSims_c (i := 15) (s_if_ne hC dX7_added5_31 rfl rfl rfl) ?_
  refine aSims_c (i := 16) (s_iconst hC dX7_added5_34 rfl rfl rfl) ?_
  refine aSims_c (i := 17) (s_goto hC dX7_added5_35 rfl rfl) ?_
  refine aSims_c (i := 18) (s_iconst hC dX7_added5_38 rfl rfl rfl) ?_
  refine aSims_c (i := 19) (s_istore_n hC dX7_added5_39 rfl rfl) ?_
  refine aSims_c (i := 20) (s_aload_n hC dX7_added5_40 rfl rfl) ?_
  refine aSims_c (i := 21) (s_callV (n := 0) hC dX7_added5_41 rfl rfl (hE 126 _ _ _ _ rfl) (hF _ (by decide)) w_1024 w_1021 w_1023 w_36 w_109 rfl (by decide +kernel)) ?_
  refine aSims_c (i := 22) (s_aload_n hC dX7_added5_44 rfl rfl) ?_
  refine aSims_c (i := 23) (s_callV (n := 0) hC dX7_added5_45 rfl rfl (hE 134 _ _ _ _ rfl) (hF _ (by decide)) w_1092 w_1089 w_1091 w_52 w_109 rfl (by decide +kernel)) ?_
  refine aSims_c (i := 24) (s_istore_n hC dX7_added5_48 rfl rfl) ?_
  refine aSims_c (i := 25) (s_iload_n hC dX7_added5_49 rfl rfl) ?_
  refine aSims_c (i := 26) (s_if_eq hC dX7_added5_50 rfl rfl rfl) ?_
  refine aSims_c (i := 27) (s_iload_n hC dX7_added5_53 rfl rfl) ?_
  refine aSims_c (i := 28) (s_iload_n hC dX7_added5_54 rfl rfl) ?_
  refine aSims_c (i := 29) (s_iadd hC dX7_added5_55 rfl rfl) ?_
  refine aSims_c (i := 30) (s_goto hC dX7_added5_56 rfl rfl) ?_
  refine aSims_c (i := 31) (s_iload_n hC dX7_added5_59 rfl rfl) ?_
  refine aSims_c (i := 32) (s_iload_n hC dX7_added5_60 rfl rfl) ?_
  refine aSims_c (i := 33) (s_isub hC dX7_added5_61 rfl rfl) ?_
  refine aSims_c (i := 34) (s_istore_n hC dX7_added5_62 rfl rfl) ?_
  refine aSims_c (i := 35) (s_goto hC dX7_added5_63 rfl rfl) ?_
  refine aSims_c (i := 36) (s_iload_n hC dX7_added5_66 rfl rfl) ?_
  refine aSims_c (i := 37) (s_iret hC dX7_added5_67 rfl hr hlk nar_qI) ?_
  exact aSims_n
set_option maxHeartbeats 4000000 in
set_option maxRecDepth 20000 in
theorem sm_X7_not5 (hC : aC p s m args c cX7_not5 4 RX7 D cA ad bs n0 H0 X) (hF : ∀ ml, ml ≤ 41 → aFit R d ml) (hRm : 16 ≤ R.frames ∧ 1000 ≤ R.locals) (hE : aCalls l D cA ad bs X d E) (hr : meth.sig.returnType = (some .int)) (hlk : meth.locks = false) : aSims (fun f i => aSim p l e R s m args below meth c (aEnd below s args D cA ad bs n0 z0 rv hf) 4 D cA ad bs n0 z0 H0 (apc pc_X7_not5) rv hf E f i) (cd_X7_not5) 0 := by
  unfold cd_X7_not5
  refine aSims_c (i := 0) (s_aload_n hC dX7_not5_0 rfl rfl) ?_
  refine aSims_c (i := 1) (s_bipush hC dX7_not5_1 rfl rfl rfl) ?_
  refine aSims_c (i := 2) (s_bipush hC dX7_not5_3 rfl rfl rfl) ?_
  refine aSims_c (i := 3) (s_bipush hC dX7_not5_5 rfl rfl rfl) ?_
  refine aSims_c (i := 4) (s_iconst hC dX7_not5_7 rfl rfl rfl) ?_
  refine aSims_c (i := 5) (s_iconst hC dX7_not5_8 rfl rfl rfl) ?_
  refine aSims_c (i := 6) (s_iconst hC dX7_not5_9 rfl rfl rfl) ?_
  refine aSims_c (i := 7) (s_iconst hC dX7_not5_10 rfl rfl rfl) ?_
  refine aSims_c (i := 8) (s_iconst hC dX7_not5_11 rfl rfl rfl) ?_
  refine aSims_c (i := 9) (s_callV (n := 8) hC dX7_not5_12 rfl rfl (hE 129 _ _ _ _ rfl) (hF _ (by decide)) w_1036 w_1033 w_1035 w_38 w_109 rfl (by decide +kernel)) ?_
  refine aSims_c (i := 10) (s_if_eq hC dX7_not5_15 rfl rfl rfl) ?_
  refine aSims_c (i := 11) (s_aload_n hC dX7_not5_18 rfl rfl) ?_
  refine aSims_c (i := 12) (s_callV (n := 0) hC dX7_not5_19 rfl rfl (hE 131 _ _ _ _ rfl) (hF _ (by decide)) w_1064 w_1061 w_1063 w_45 w_109 rfl (by decide +kernel)) ?_
  refine aSims_c (i := 13) (s_pop hC dX7_not5_22 rfl rfl) ?_
  refine aSims_c (i := 14) (s_iconst hC dX7_not5_23 rfl rfl rfl) ?_
  refine aSims_c (i := 15) (s_iret hC dX7_not5_24 rfl hr hlk nar_qI) ?_
  refine aSims_c (i := 16) (s_aload_n hC dX7_not5_25 rfl rfl) ?_
  refine aSims_c (i := 17) (s_callV (n := 0) hC dX7_not5_26 rfl rfl (hE 135 _ _ _ _ rfl) (hF _ (by decide)) w_1088 w_1085 w_1087 w_51 w_109 rfl (by decide +kernel)) ?_
  refine aSims_c (i := 18) (s_istore_n hC dX7_not5_29 rfl rfl) ?_
  refine aSims_c (i := 19) (s_aload_n hC dX7_not5_30 rfl rfl) ?_
  refine aSims_c (i := 20) (s_bipush hC dX7_not5_31 rfl rfl rfl) ?_
  refine aSims_c (i := 21) (s_callV (n := 1) hC dX7_not5_33 rfl rfl (hE 130 _ _ _ _ rfl) (hF _ (by decide)) w_1100 w_1097 w_1099 w_54 w_109 rfl (by decide +kernel)) ?_
  refine aSims_c (i := 22) (s_if_ne hC dX7_not5_36 rfl rfl rfl) ?_
  refine aSims_c (i := 23) (s_aload_n hC dX7_not5_39 rfl rfl) ?_
  refine aSims_c (i := 24) (s_bipush hC dX7_not5_40 rfl rfl rfl) ?_
  refine aSims_c (i := 25) (s_callV (n := 1) hC dX7_not5_42 rfl rfl (hE 130 _ _ _ _ rfl) (hF _ (by decide)) w_1100 w_1097 w_1099 w_54 w_109 rfl (by decide +kernel)) ?_
  refine aSims_c (i := 26) (s_if_ne hC dX7_not5_45 rfl rfl rfl) ?_
  refine aSims_c (i := 27) (s_iload_n hC dX7_not5_48 rfl rfl) ?_
  refine aSims_c (i := 28) (s_iret hC dX7_not5_49 rfl hr hlk nar_qI) ?_
  refine aSims_c (i := 29) (s_aload_n hC dX7_not5_50 rfl rfl) ?_
  refine aSims_c (i := 30) (s_get hC dX7_not5_51 rfl rfl w_866 rfl rfl inB7 (by decide)) ?_
  refine aSims_c (i := 31) (s_ldc2 hC dX7_not5_54 w_1106 rfl rfl) ?_
  refine aSims_c (i := 32) (s_lcmp hC dX7_not5_57 rfl rfl) ?_
  refine aSims_c (i := 33) (s_if_ne hC dX7_not5_58 rfl rfl rfl) ?_
  refine aSims_c (i := 34) (s_iconst hC dX7_not5_61 rfl rfl rfl) ?_
  refine aSims_c (i := 35) (s_goto hC dX7_not5_62 rfl rfl) ?_
  refine aSims_c (i := 36) (s_iconst hC dX7_not5_65 rfl rfl rfl) ?_
  refine aSims_c (i := 37) (s_istore_n hC dX7_not5_66 rfl rfl) ?_
  refine aSims_c (i := 38) (s_aload_n hC dX7_not5_67 rfl rfl) ?_
  refine aSims_c (i := 39) (s_callV (n := 0) hC dX7_not5_68 rfl rfl (hE 126 _ _ _ _ rfl) (hF _ (by decide)) w_1024 w_1021 w_1023 w_36 w_109 rfl (by decide +kernel)) ?_
  refine aSims_c (i := 40) (s_aload_n hC dX7_not5_71 rfl rfl) ?_
  refine aSims_c (i := 41) (s_callV (n := 0) hC dX7_not5_72 rfl rfl (hE 135 _ _ _ _ rfl) (hF _ (by decide)) w_1088 w_1085 w_1087 w_51 w_109 rfl (by decide +kernel)) ?_
  refine aSims_c (i := 42) (s_istore_n hC dX7_not5_75 rfl rfl) ?_
  refine aSims_c (i := 43) (s_iload_n hC dX7_not5_76 rfl rfl) ?_
  refine aSims_c (i := 44) (s_if_eq hC dX7_not5_77 rfl rfl rfl) ?_
  refine aSims_c (i := 45) (s_iload_n hC dX7_not5_80 rfl rfl) ?_
  refine aSims_c (i := 46) (s_iload_n hC dX7_not5_81 rfl rfl) ?_
  refine aSims_c (i := 47) (s_icmp_ge hC dX7_not5_82 rfl rfl rfl) ?_
  refine aSims_c (i := 48) (s_goto hC dX7_not5_85 rfl rfl) ?_
  refine aSims_c (i := 49) (s_iload_n hC dX7_not5_88 rfl rfl) ?_
  refine aSims_c (i := 50) (s_iload_n hC dX7_not5_89 rfl rfl) ?_
  refine aSims_c (i := 51) (s_icmp_ne hC dX7_not5_90 rfl rfl rfl) ?_
  refine aSims_c (i := 52) (s_iconst hC dX7_not5_93 rfl rfl rfl) ?_
  refine aSims_c (i := 53) (s_goto hC dX7_not5_94 rfl rfl) ?_
  refine aSims_c (i := 54) (s_iconst hC dX7_not5_97 rfl rfl rfl) ?_
  refine aSims_c (i := 55) (s_iret hC dX7_not5_98 rfl hr hlk nar_qI) ?_
  exact aSims_n
set_option maxHeartbeats 4000000 in
set_option maxRecDepth 20000 in
theorem sm_X7_both5 (hC : aC p s m args c cX7_both5 3 RX7 D cA ad bs n0 H0 X) (hF : ∀ ml, ml ≤ 41 → aFit R d ml) (hRm : 16 ≤ R.frames ∧ 1000 ≤ R.locals) (hE : aCalls l D cA ad bs X d E) (hr : meth.sig.returnType = (some .int)) (hlk : meth.locks = false) : aSims (fun f i => aSim p l e R s m args below meth c (aEnd below s args D cA ad bs n0 z0 rv hf) 3 D cA ad bs n0 z0 H0 (apc pc_X7_both5) rv hf E f i) (cd_X7_both5) 0 := by
  unfold cd_X7_both5
  refine aSims_c (i := 0) (s_aload_n hC dX7_both5_0 rfl rfl) ?_
  refine aSims_c (i := 1) (s_callV (n := 0) hC dX7_both5_1 rfl rfl (hE 136 _ _ _ _ rfl) (hF _ (by decide)) w_1084 w_1081 w_1083 w_50 w_109 rfl (by decide +kernel)) ?_
  refine aSims_c (i := 2) (s_istore_n hC dX7_both5_4 rfl rfl) ?_
  refine aSims_c (i := 3) (s_aload_n hC dX7_both5_5 rfl rfl) ?_
  refine aSims_c (i := 4) (s_bipush hC dX7_both5_6 rfl rfl rfl) ?_
  refine aSims_c (i := 5) (s_bipush hC dX7_both5_8 rfl rfl rfl) ?_
  refine aSims_c (i := 6) (s_bipush hC dX7_both5_10 rfl rfl rfl) ?_
  refine aSims_c (i := 7) (s_iconst hC dX7_both5_12 rfl rfl rfl) ?_
  refine aSims_c (i := 8) (s_iconst hC dX7_both5_13 rfl rfl rfl) ?_
  refine aSims_c (i := 9) (s_iconst hC dX7_both5_14 rfl rfl rfl) ?_
  refine aSims_c (i := 10) (s_iconst hC dX7_both5_15 rfl rfl rfl) ?_
  refine aSims_c (i := 11) (s_iconst hC dX7_both5_16 rfl rfl rfl) ?_
  refine aSims_c (i := 12) (s_callV (n := 8) hC dX7_both5_17 rfl rfl (hE 129 _ _ _ _ rfl) (hF _ (by decide)) w_1036 w_1033 w_1035 w_38 w_109 rfl (by decide +kernel)) ?_
  refine aSims_c (i := 13) (s_if_eq hC dX7_both5_20 rfl rfl rfl) ?_
  refine aSims_c (i := 14) (s_aload_n hC dX7_both5_23 rfl rfl) ?_
  refine aSims_c (i := 15) (s_callV (n := 0) hC dX7_both5_24 rfl rfl (hE 126 _ _ _ _ rfl) (hF _ (by decide)) w_1024 w_1021 w_1023 w_36 w_109 rfl (by decide +kernel)) ?_
  refine aSims_c (i := 16) (s_aload_n hC dX7_both5_27 rfl rfl) ?_
  refine aSims_c (i := 17) (s_callV (n := 0) hC dX7_both5_28 rfl rfl (hE 136 _ _ _ _ rfl) (hF _ (by decide)) w_1084 w_1081 w_1083 w_50 w_109 rfl (by decide +kernel)) ?_
  refine aSims_c (i := 18) (s_istore_n hC dX7_both5_31 rfl rfl) ?_
  refine aSims_c (i := 19) (s_iload_n hC dX7_both5_32 rfl rfl) ?_
  refine aSims_c (i := 20) (s_if_eq hC dX7_both5_33 rfl rfl rfl) ?_
  refine aSims_c (i := 21) (s_iload_n hC dX7_both5_36 rfl rfl) ?_
  refine aSims_c (i := 22) (s_if_eq hC dX7_both5_37 rfl rfl rfl) ?_
  refine aSims_c (i := 23) (s_iconst hC dX7_both5_40 rfl rfl rfl) ?_
  refine aSims_c (i := 24) (s_goto hC dX7_both5_41 rfl rfl) ?_
  refine aSims_c (i := 25) (s_iconst hC dX7_both5_44 rfl rfl rfl) ?_
  refine aSims_c (i := 26) (s_istore_n hC dX7_both5_45 rfl rfl) ?_
  refine aSims_c (i := 27) (s_goto hC dX7_both5_46 rfl rfl) ?_
  refine aSims_c (i := 28) (s_iload_n hC dX7_both5_49 rfl rfl) ?_
  refine aSims_c (i := 29) (s_iret hC dX7_both5_50 rfl hr hlk nar_qI) ?_
  exact aSims_n
set_option maxHeartbeats 4000000 in
set_option maxRecDepth 20000 in
theorem sm_X7_either5 (hC : aC p s m args c cX7_either5 3 RX7 D cA ad bs n0 H0 X) (hF : ∀ ml, ml ≤ 41 → aFit R d ml) (hRm : 16 ≤ R.frames ∧ 1000 ≤ R.locals) (hE : aCalls l D cA ad bs X d E) (hr : meth.sig.returnType = (some .int)) (hlk : meth.locks = false) : aSims (fun f i => aSim p l e R s m args below meth c (aEnd below s args D cA ad bs n0 z0 rv hf) 3 D cA ad bs n0 z0 H0 (apc pc_X7_either5) rv hf E f i) (cd_X7_either5) 0 := by
  unfold cd_X7_either5
  refine aSims_c (i := 0) (s_aload_n hC dX7_either5_0 rfl rfl) ?_
  refine aSims_c (i := 1) (s_callV (n := 0) hC dX7_either5_1 rfl rfl (hE 137 _ _ _ _ rfl) (hF _ (by decide)) w_1126 w_1123 w_1125 w_60 w_109 rfl (by decide +kernel)) ?_
  refine aSims_c (i := 2) (s_istore_n hC dX7_either5_4 rfl rfl) ?_
  refine aSims_c (i := 3) (s_aload_n hC dX7_either5_5 rfl rfl) ?_
  refine aSims_c (i := 4) (s_bipush hC dX7_either5_6 rfl rfl rfl) ?_
  refine aSims_c (i := 5) (s_bipush hC dX7_either5_8 rfl rfl rfl) ?_
  refine aSims_c (i := 6) (s_iconst hC dX7_either5_10 rfl rfl rfl) ?_
  refine aSims_c (i := 7) (s_iconst hC dX7_either5_11 rfl rfl rfl) ?_
  refine aSims_c (i := 8) (s_iconst hC dX7_either5_12 rfl rfl rfl) ?_
  refine aSims_c (i := 9) (s_iconst hC dX7_either5_13 rfl rfl rfl) ?_
  refine aSims_c (i := 10) (s_iconst hC dX7_either5_14 rfl rfl rfl) ?_
  refine aSims_c (i := 11) (s_iconst hC dX7_either5_15 rfl rfl rfl) ?_
  refine aSims_c (i := 12) (s_callV (n := 8) hC dX7_either5_16 rfl rfl (hE 129 _ _ _ _ rfl) (hF _ (by decide)) w_1036 w_1033 w_1035 w_38 w_109 rfl (by decide +kernel)) ?_
  refine aSims_c (i := 13) (s_if_eq hC dX7_either5_19 rfl rfl rfl) ?_
  refine aSims_c (i := 14) (s_aload_n hC dX7_either5_22 rfl rfl) ?_
  refine aSims_c (i := 15) (s_callV (n := 0) hC dX7_either5_23 rfl rfl (hE 126 _ _ _ _ rfl) (hF _ (by decide)) w_1024 w_1021 w_1023 w_36 w_109 rfl (by decide +kernel)) ?_
  refine aSims_c (i := 16) (s_aload_n hC dX7_either5_26 rfl rfl) ?_
  refine aSims_c (i := 17) (s_callV (n := 0) hC dX7_either5_27 rfl rfl (hE 137 _ _ _ _ rfl) (hF _ (by decide)) w_1126 w_1123 w_1125 w_60 w_109 rfl (by decide +kernel)) ?_
  refine aSims_c (i := 18) (s_istore_n hC dX7_either5_30 rfl rfl) ?_
  refine aSims_c (i := 19) (s_iload_n hC dX7_either5_31 rfl rfl) ?_
  refine aSims_c (i := 20) (s_if_ne hC dX7_either5_32 rfl rfl rfl) ?_
  refine aSims_c (i := 21) (s_iload_n hC dX7_either5_35 rfl rfl) ?_
  refine aSims_c (i := 22) (s_if_eq hC dX7_either5_36 rfl rfl rfl) ?_
  refine aSims_c (i := 23) (s_iconst hC dX7_either5_39 rfl rfl rfl) ?_
  refine aSims_c (i := 24) (s_goto hC dX7_either5_40 rfl rfl) ?_
  refine aSims_c (i := 25) (s_iconst hC dX7_either5_43 rfl rfl rfl) ?_
  refine aSims_c (i := 26) (s_istore_n hC dX7_either5_44 rfl rfl) ?_
  refine aSims_c (i := 27) (s_goto hC dX7_either5_45 rfl rfl) ?_
  refine aSims_c (i := 28) (s_iload_n hC dX7_either5_48 rfl rfl) ?_
  refine aSims_c (i := 29) (s_iret hC dX7_either5_49 rfl hr hlk nar_qI) ?_
  exact aSims_n
set_option maxHeartbeats 4000000 in
set_option maxRecDepth 20000 in
theorem sm_X7_atom4 (hC : aC p s m args c cX7_atom4 2 RX7 D cA ad bs n0 H0 X) (hF : ∀ ml, ml ≤ 41 → aFit R d ml) (hRm : 16 ≤ R.frames ∧ 1000 ≤ R.locals) (hE : aCalls l D cA ad bs X d E) (hr : meth.sig.returnType = (some .int)) (hlk : meth.locks = false) : aSims (fun f i => aSim p l e R s m args below meth c (aEnd below s args D cA ad bs n0 z0 rv hf) 2 D cA ad bs n0 z0 H0 (apc pc_X7_atom4) rv hf E f i) (cd_X7_atom4) 0 := by
  unfold cd_X7_atom4
  refine aSims_c (i := 0) (s_iconst hC dX7_atom4_0 rfl rfl rfl) ?_
  refine aSims_c (i := 1) (s_istore_n hC dX7_atom4_1 rfl rfl) ?_
  refine aSims_c (i := 2) (s_aload_n hC dX7_atom4_2 rfl rfl) ?_
  refine aSims_c (i := 3) (s_bipush hC dX7_atom4_3 rfl rfl rfl) ?_
  refine aSims_c (i := 4) (s_callV (n := 1) hC dX7_atom4_5 rfl rfl (hE 130 _ _ _ _ rfl) (hF _ (by decide)) w_1100 w_1097 w_1099 w_54 w_109 rfl (by decide +kernel)) ?_
  refine aSims_c (i := 5) (s_if_eq hC dX7_atom4_8 rfl rfl rfl) ?_
  refine aSims_c (i := 6) (s_aload_n hC dX7_atom4_11 rfl rfl) ?_
  refine aSims_c (i := 7) (s_callV (n := 0) hC dX7_atom4_12 rfl rfl (hE 131 _ _ _ _ rfl) (hF _ (by decide)) w_1064 w_1061 w_1063 w_45 w_109 rfl (by decide +kernel)) ?_
  refine aSims_c (i := 8) (s_if_eq hC dX7_atom4_15 rfl rfl rfl) ?_
  refine aSims_c (i := 9) (s_aload_n hC dX7_atom4_18 rfl rfl) ?_
  refine aSims_c (i := 10) (s_callV (n := 0) hC dX7_atom4_19 rfl rfl (hE 133 _ _ _ _ rfl) (hF _ (by decide)) w_1096 w_1093 w_1095 w_53 w_109 rfl (by decide +kernel)) ?_
  refine aSims_c (i := 11) (s_ineg hC dX7_atom4_22 rfl rfl) ?_
  refine aSims_c (i := 12) (s_istore_n hC dX7_atom4_23 rfl rfl) ?_
  refine aSims_c (i := 13) (s_aload_n hC dX7_atom4_24 rfl rfl) ?_
  refine aSims_c (i := 14) (s_dup hC dX7_atom4_25 rfl rfl) ?_
  refine aSims_c (i := 15) (s_get hC dX7_atom4_26 rfl rfl w_867 rfl rfl inB7 (by decide)) ?_
  refine aSims_c (i := 16) (s_iconst hC dX7_atom4_29 rfl rfl rfl) ?_
  refine aSims_c (i := 17) (s_isub hC dX7_atom4_30 rfl rfl) ?_
  refine aSims_c (i := 18) (s_put hC dX7_atom4_31 rfl rfl w_867 rfl rfl inB7 tyX7_ok nmX7 (by decide) rfl) ?_
  refine aSims_c (i := 19) (s_goto hC dX7_atom4_34 rfl rfl) ?_
  refine aSims_c (i := 20) (s_aload_n hC dX7_atom4_37 rfl rfl) ?_
  refine aSims_c (i := 21) (s_bipush hC dX7_atom4_38 rfl rfl rfl) ?_
  refine aSims_c (i := 22) (s_callV (n := 1) hC dX7_atom4_40 rfl rfl (hE 130 _ _ _ _ rfl) (hF _ (by decide)) w_1100 w_1097 w_1099 w_54 w_109 rfl (by decide +kernel)) ?_
  refine aSims_c (i := 23) (s_if_eq hC dX7_atom4_43 rfl rfl rfl) ?_
  refine aSims_c (i := 24) (s_aload_n hC dX7_atom4_46 rfl rfl) ?_
  refine aSims_c (i := 25) (s_callV (n := 0) hC dX7_atom4_47 rfl rfl (hE 131 _ _ _ _ rfl) (hF _ (by decide)) w_1064 w_1061 w_1063 w_45 w_109 rfl (by decide +kernel)) ?_
  refine aSims_c (i := 26) (s_if_eq hC dX7_atom4_50 rfl rfl rfl) ?_
  refine aSims_c (i := 27) (s_aload_n hC dX7_atom4_53 rfl rfl) ?_
  refine aSims_c (i := 28) (s_callV (n := 0) hC dX7_atom4_54 rfl rfl (hE 138 _ _ _ _ rfl) (hF _ (by decide)) w_1122 w_1119 w_1121 w_59 w_109 rfl (by decide +kernel)) ?_
  refine aSims_c (i := 29) (s_istore_n hC dX7_atom4_57 rfl rfl) ?_
  refine aSims_c (i := 30) (s_aload_n hC dX7_atom4_58 rfl rfl) ?_
  refine aSims_c (i := 31) (s_bipush hC dX7_atom4_59 rfl rfl rfl) ?_
  refine aSims_c (i := 32) (s_callV (n := 1) hC dX7_atom4_61 rfl rfl (hE 130 _ _ _ _ rfl) (hF _ (by decide)) w_1100 w_1097 w_1099 w_54 w_109 rfl (by decide +kernel)) ?_
  refine aSims_c (i := 33) (s_if_ne hC dX7_atom4_64 rfl rfl rfl) ?_
  refine aSims_c (i := 34) (s_aload_n hC dX7_atom4_67 rfl rfl) ?_
  refine aSims_c (i := 35) (s_callV (n := 0) hC dX7_atom4_68 rfl rfl (hE 127 _ _ _ _ rfl) (hF _ (by decide)) w_1048 w_1045 w_1047 w_41 w_109 rfl (by decide +kernel)) ?_
  refine aSims_c (i := 36) (s_aload_n hC dX7_atom4_71 rfl rfl) ?_
  refine aSims_c (i := 37) (s_dup hC dX7_atom4_72 rfl rfl) ?_
  refine aSims_c (i := 38) (s_get hC dX7_atom4_73 rfl rfl w_867 rfl rfl inB7 (by decide)) ?_
  refine aSims_c (i := 39) (s_iconst hC dX7_atom4_76 rfl rfl rfl) ?_
  refine aSims_c (i := 40) (s_isub hC dX7_atom4_77 rfl rfl) ?_
  refine aSims_c (i := 41) (s_put hC dX7_atom4_78 rfl rfl w_867 rfl rfl inB7 tyX7_ok nmX7 (by decide) rfl) ?_
  refine aSims_c (i := 42) (s_aload_n hC dX7_atom4_81 rfl rfl) ?_
  refine aSims_c (i := 43) (s_get hC dX7_atom4_82 rfl rfl w_868 rfl rfl inB7 (by decide)) ?_
  refine aSims_c (i := 44) (s_if_ne hC dX7_atom4_85 rfl rfl rfl) ?_
  refine aSims_c (i := 45) (s_aload_n hC dX7_atom4_88 rfl rfl) ?_
  refine aSims_c (i := 46) (s_callV (n := 0) hC dX7_atom4_89 rfl rfl (hE 126 _ _ _ _ rfl) (hF _ (by decide)) w_1024 w_1021 w_1023 w_36 w_109 rfl (by decide +kernel)) ?_
  refine aSims_c (i := 47) (s_goto hC dX7_atom4_92 rfl rfl) ?_
  refine aSims_c (i := 48) (s_aload_n hC dX7_atom4_95 rfl rfl) ?_
  refine aSims_c (i := 49) (s_get hC dX7_atom4_96 rfl rfl w_868 rfl rfl inB7 (by decide)) ?_
  refine aSims_c (i := 50) (s_if_ne hC dX7_atom4_99 rfl rfl rfl) ?_
  refine aSims_c (i := 51) (s_aload_n hC dX7_atom4_102 rfl rfl) ?_
  refine aSims_c (i := 52) (s_get hC dX7_atom4_103 rfl rfl w_864 rfl rfl inB7 (by decide)) ?_
  refine aSims_c (i := 53) (s_iconst hC dX7_atom4_106 rfl rfl rfl) ?_
  refine aSims_c (i := 54) (s_icmp_ne hC dX7_atom4_107 rfl rfl rfl) ?_
  refine aSims_c (i := 55) (s_aload_n hC dX7_atom4_110 rfl rfl) ?_
  refine aSims_c (i := 56) (s_get hC dX7_atom4_111 rfl rfl w_866 rfl rfl inB7 (by decide)) ?_
  refine aSims_c (i := 57) (s_l2i hC dX7_atom4_114 rfl rfl) ?_
  refine aSims_c (i := 58) (s_istore_n hC dX7_atom4_115 rfl rfl) ?_
  refine aSims_c (i := 59) (s_aload_n hC dX7_atom4_116 rfl rfl) ?_
  refine aSims_c (i := 60) (s_callV (n := 0) hC dX7_atom4_117 rfl rfl (hE 126 _ _ _ _ rfl) (hF _ (by decide)) w_1024 w_1021 w_1023 w_36 w_109 rfl (by decide +kernel)) ?_
  refine aSims_c (i := 61) (s_goto hC dX7_atom4_120 rfl rfl) ?_
  refine aSims_c (i := 62) (s_aload_n hC dX7_atom4_123 rfl rfl) ?_
  refine aSims_c (i := 63) (s_get hC dX7_atom4_124 rfl rfl w_868 rfl rfl inB7 (by decide)) ?_
  refine aSims_c (i := 64) (s_if_ne hC dX7_atom4_127 rfl rfl rfl) ?_
  refine aSims_c (i := 65) (s_aload_n hC dX7_atom4_130 rfl rfl) ?_
  refine aSims_c (i := 66) (s_get hC dX7_atom4_131 rfl rfl w_864 rfl rfl inB7 (by decide)) ?_
  refine aSims_c (i := 67) (s_iconst hC dX7_atom4_134 rfl rfl rfl) ?_
  refine aSims_c (i := 68) (s_icmp_ne hC dX7_atom4_135 rfl rfl rfl) ?_
  refine aSims_c (i := 69) (s_aload_n hC dX7_atom4_138 rfl rfl) ?_
  refine aSims_c (i := 70) (s_callV (n := 0) hC dX7_atom4_139 rfl rfl (hE 132 _ _ _ _ rfl) (hF _ (by decide)) w_1104 w_1101 w_1103 w_55 w_109 rfl (by decide +kernel)) ?_
  refine aSims_c (i := 71) (s_istore_n hC dX7_atom4_142 rfl rfl) ?_
  refine aSims_c (i := 72) (s_aload_n hC dX7_atom4_143 rfl rfl) ?_
  refine aSims_c (i := 73) (s_get hC dX7_atom4_144 rfl rfl w_868 rfl rfl inB7 (by decide)) ?_
  refine aSims_c (i := 74) (s_if_ne hC dX7_atom4_147 rfl rfl rfl) ?_
  refine aSims_c (i := 75) (s_aload_n hC dX7_atom4_150 rfl rfl) ?_
  refine aSims_c (i := 76) (s_callV (n := 0) hC dX7_atom4_151 rfl rfl (hE 126 _ _ _ _ rfl) (hF _ (by decide)) w_1024 w_1021 w_1023 w_36 w_109 rfl (by decide +kernel)) ?_
  refine aSims_c (i := 77) (s_goto hC dX7_atom4_154 rfl rfl) ?_
  refine aSims_c (i := 78) (s_aload_n hC dX7_atom4_157 rfl rfl) ?_
  refine aSims_c (i := 79) (s_callV (n := 0) hC dX7_atom4_158 rfl rfl (hE 127 _ _ _ _ rfl) (hF _ (by decide)) w_1048 w_1045 w_1047 w_41 w_109 rfl (by decide +kernel)) ?_
  refine aSims_c (i := 80) (s_iload_n hC dX7_atom4_161 rfl rfl) ?_
  refine aSims_c (i := 81) (s_iret hC dX7_atom4_162 rfl hr hlk nar_qI) ?_
  exact aSims_n
set_option maxHeartbeats 4000000 in
set_option maxRecDepth 20000 in
theorem sm_X7_term4 (hC : aC p s m args c cX7_term4 2 RX7 D cA ad bs n0 H0 X) (hF : ∀ ml, ml ≤ 41 → aFit R d ml) (hRm : 16 ≤ R.frames ∧ 1000 ≤ R.locals) (hE : aCalls l D cA ad bs X d E) (hr : meth.sig.returnType = (some .int)) (hlk : meth.locks = false) : aSims (fun f i => aSim p l e R s m args below meth c (aEnd below s args D cA ad bs n0 z0 rv hf) 2 D cA ad bs n0 z0 H0 (apc pc_X7_term4) rv hf E f i) (cd_X7_term4) 0 := by
  unfold cd_X7_term4
  refine aSims_c (i := 0) (s_aload_n hC dX7_term4_0 rfl rfl) ?_
  refine aSims_c (i := 1) (s_callV (n := 0) hC dX7_term4_1 rfl rfl (hE 139 _ _ _ _ rfl) (hF _ (by decide)) w_1118 w_1115 w_1117 w_58 w_109 rfl (by decide +kernel)) ?_
  refine aSims_c (i := 2) (s_istore_n hC dX7_term4_4 rfl rfl) ?_
  refine aSims_c (i := 3) (s_aload_n hC dX7_term4_5 rfl rfl) ?_
  refine aSims_c (i := 4) (s_bipush hC dX7_term4_6 rfl rfl rfl) ?_
  refine aSims_c (i := 5) (s_callV (n := 1) hC dX7_term4_8 rfl rfl (hE 130 _ _ _ _ rfl) (hF _ (by decide)) w_1100 w_1097 w_1099 w_54 w_109 rfl (by decide +kernel)) ?_
  refine aSims_c (i := 6) (s_if_eq hC dX7_term4_11 rfl rfl rfl) ?_
  refine aSims_c (i := 7) (s_aload_n hC dX7_term4_14 rfl rfl) ?_
  refine aSims_c (i := 8) (s_callV (n := 0) hC dX7_term4_15 rfl rfl (hE 126 _ _ _ _ rfl) (hF _ (by decide)) w_1024 w_1021 w_1023 w_36 w_109 rfl (by decide +kernel)) ?_
  refine aSims_c (i := 9) (s_iload_n hC dX7_term4_18 rfl rfl) ?_
  refine aSims_c (i := 10) (s_aload_n hC dX7_term4_19 rfl rfl) ?_
  refine aSims_c (i := 11) (s_callV (n := 0) hC dX7_term4_20 rfl rfl (hE 139 _ _ _ _ rfl) (hF _ (by decide)) w_1118 w_1115 w_1117 w_58 w_109 rfl (by decide +kernel)) ?_
  refine aSims_c (i := 12) (s_imul hC dX7_term4_23 rfl rfl) ?_
  refine aSims_c (i := 13) (s_istore_n hC dX7_term4_24 rfl rfl) ?_
  refine aSims_c (i := 14) (s_goto hC dX7_term4_25 rfl rfl) ?_
  refine aSims_c (i := 15) (s_iload_n hC dX7_term4_28 rfl rfl) ?_
  refine aSims_c (i := 16) (s_iret hC dX7_term4_29 rfl hr hlk nar_qI) ?_
  exact aSims_n
set_option maxHeartbeats 4000000 in
set_option maxRecDepth 20000 in
theorem sm_X7_added4 (hC : aC p s m args c cX7_added4 4 RX7 D cA ad bs n0 H0 X) (hF : ∀ ml, ml ≤ 41 → aFit R d ml) (hRm : 16 ≤ R.frames ∧ 1000 ≤ R.locals) (hE : aCalls l D cA ad bs X d E) (hr : meth.sig.returnType = (some .int)) (hlk : meth.locks = false) : aSims (fun f i => aSim p l e R s m args below meth c (aEnd below s args D cA ad bs n0 z0 rv hf) 4 D cA ad bs n0 z0 H0 (apc pc_X7_added4) rv hf E f i) (cd_X7_added4) 0 := by
  unfold cd_X7_added4
  refine aSims_c (i := 0) (s_aload_n hC dX7_added4_0 rfl rfl) ?_
  refine aSims_c (i := 1) (s_callV (n := 0) hC dX7_added4_1 rfl rfl (hE 140 _ _ _ _ rfl) (hF _ (by decide)) w_1114 w_1111 w_1113 w_57 w_109 rfl (by decide +kernel)) ?_
  refine aSims_c (i := 2) (s_istore_n hC dX7_added4_4 rfl rfl) ?_
  refine aSims_c (i := 3) (s_aload_n hC dX7_added4_5 rfl rfl) ?_
  refine aSims_c (i := 4) (s_bipush hC dX7_added4_6 rfl rfl rfl) ?_
  refine aSims_c (i := 5) (s_callV (n := 1) hC dX7_added4_8 rfl rfl (hE 130 _ _ _ _ rfl) (hF _ (by decide)) w_1100 w_1097 w_1099 w_54 w_109 rfl (by decide +kernel)) ?_
  refine aSims_c (i := 6) (s_if_ne hC dX7_added4_11 rfl rfl rfl) ?_
  refine aSims_c (i := 7) (s_aload_n hC dX7_added4_14 rfl rfl) ?_
  refine aSims_c (i := 8) (s_bipush hC dX7_added4_15 rfl rfl rfl) ?_
  refine aSims_c (i := 9) (s_callV (n := 1) hC dX7_added4_17 rfl rfl (hE 130 _ _ _ _ rfl) (hF _ (by decide)) w_1100 w_1097 w_1099 w_54 w_109 rfl (by decide +kernel)) ?_
  refine aSims_c (i := 10) (s_if_eq hC dX7_added4_20 rfl rfl rfl) ?_
  refine aSims_c (i := 11) (s_aload_n hC dX7_added4_23 rfl rfl) ?_
  refine aSims_c (i := 12) (s_get hC dX7_added4_24 rfl rfl w_866 rfl rfl inB7 (by decide)) ?_
  refine aSims_c (i := 13) (s_ldc2 hC dX7_added4_27 w_1105 rfl rfl) ?_
  refine aSims_c (i := 14) (s_lcmp hC dX7_added4_30 rfl rfl) ?_
  refine aSims_c (i := 15) (s_if_ne hC dX7_added4_31 rfl rfl rfl) ?_
  refine aSims_c (i := 16) (s_iconst hC dX7_added4_34 rfl rfl rfl) ?_
  refine aSims_c (i := 17) (s_goto hC dX7_added4_35 rfl rfl) ?_
  refine aSims_c (i := 18) (s_iconst hC dX7_added4_38 rfl rfl rfl) ?_
  refine aSims_c (i := 19) (s_istore_n hC dX7_added4_39 rfl rfl) ?_
  refine aSims_c (i := 20) (s_aload_n hC dX7_added4_40 rfl rfl) ?_
  refine aSims_c (i := 21) (s_callV (n := 0) hC dX7_added4_41 rfl rfl (hE 126 _ _ _ _ rfl) (hF _ (by decide)) w_1024 w_1021 w_1023 w_36 w_109 rfl (by decide +kernel)) ?_
  refine aSims_c (i := 22) (s_aload_n hC dX7_added4_44 rfl rfl) ?_
  refine aSims_c (i := 23) (s_callV (n := 0) hC dX7_added4_45 rfl rfl (hE 140 _ _ _ _ rfl) (hF _ (by decide)) w_1114 w_1111 w_1113 w_57 w_109 rfl (by decide +kernel)) ?_
  refine aSims_c (i := 24) (s_istore_n hC dX7_added4_48 rfl rfl) ?_
  refine aSims_c (i := 25) (s_iload_n hC dX7_added4_49 rfl rfl) ?_
  refine aSims_c (i := 26) (s_if_eq hC dX7_added4_50 rfl rfl rfl) ?_
  refine aSims_c (i := 27) (s_iload_n hC dX7_added4_53 rfl rfl) ?_
  refine aSims_c (i := 28) (s_iload_n hC dX7_added4_54 rfl rfl) ?_
  refine aSims_c (i := 29) (s_iadd hC dX7_added4_55 rfl rfl) ?_
  refine aSims_c (i := 30) (s_goto hC dX7_added4_56 rfl rfl) ?_
  refine aSims_c (i := 31) (s_iload_n hC dX7_added4_59 rfl rfl) ?_
  refine aSims_c (i := 32) (s_iload_n hC dX7_added4_60 rfl rfl) ?_
  refine aSims_c (i := 33) (s_isub hC dX7_added4_61 rfl rfl) ?_
  refine aSims_c (i := 34) (s_istore_n hC dX7_added4_62 rfl rfl) ?_
  refine aSims_c (i := 35) (s_goto hC dX7_added4_63 rfl rfl) ?_
  refine aSims_c (i := 36) (s_iload_n hC dX7_added4_66 rfl rfl) ?_
  refine aSims_c (i := 37) (s_iret hC dX7_added4_67 rfl hr hlk nar_qI) ?_
  exact aSims_n
set_option maxHeartbeats 4000000 in
set_option maxRecDepth 20000 in
theorem sm_X7_not4 (hC : aC p s m args c cX7_not4 4 RX7 D cA ad bs n0 H0 X) (hF : ∀ ml, ml ≤ 41 → aFit R d ml) (hRm : 16 ≤ R.frames ∧ 1000 ≤ R.locals) (hE : aCalls l D cA ad bs X d E) (hr : meth.sig.returnType = (some .int)) (hlk : meth.locks = false) : aSims (fun f i => aSim p l e R s m args below meth c (aEnd below s args D cA ad bs n0 z0 rv hf) 4 D cA ad bs n0 z0 H0 (apc pc_X7_not4) rv hf E f i) (cd_X7_not4) 0 := by
  unfold cd_X7_not4
  refine aSims_c (i := 0) (s_aload_n hC dX7_not4_0 rfl rfl) ?_
  refine aSims_c (i := 1) (s_bipush hC dX7_not4_1 rfl rfl rfl) ?_
  refine aSims_c (i := 2) (s_bipush hC dX7_not4_3 rfl rfl rfl) ?_
  refine aSims_c (i := 3) (s_bipush hC dX7_not4_5 rfl rfl rfl) ?_
  refine aSims_c (i := 4) (s_iconst hC dX7_not4_7 rfl rfl rfl) ?_
  refine aSims_c (i := 5) (s_iconst hC dX7_not4_8 rfl rfl rfl) ?_
  refine aSims_c (i := 6) (s_iconst hC dX7_not4_9 rfl rfl rfl) ?_
  refine aSims_c (i := 7) (s_iconst hC dX7_not4_10 rfl rfl rfl) ?_
  refine aSims_c (i := 8) (s_iconst hC dX7_not4_11 rfl rfl rfl) ?_
  refine aSims_c (i := 9) (s_callV (n := 8) hC dX7_not4_12 rfl rfl (hE 129 _ _ _ _ rfl) (hF _ (by decide)) w_1036 w_1033 w_1035 w_38 w_109 rfl (by decide +kernel)) ?_
  refine aSims_c (i := 10) (s_if_eq hC dX7_not4_15 rfl rfl rfl) ?_
  refine aSims_c (i := 11) (s_aload_n hC dX7_not4_18 rfl rfl) ?_
  refine aSims_c (i := 12) (s_callV (n := 0) hC dX7_not4_19 rfl rfl (hE 131 _ _ _ _ rfl) (hF _ (by decide)) w_1064 w_1061 w_1063 w_45 w_109 rfl (by decide +kernel)) ?_
  refine aSims_c (i := 13) (s_if_ne hC dX7_not4_22 rfl rfl rfl) ?_
  refine aSims_c (i := 14) (s_iconst hC dX7_not4_25 rfl rfl rfl) ?_
  refine aSims_c (i := 15) (s_iret hC dX7_not4_26 rfl hr hlk nar_qI) ?_
  refine aSims_c (i := 16) (s_aload_n hC dX7_not4_27 rfl rfl) ?_
  refine aSims_c (i := 17) (s_callV (n := 0) hC dX7_not4_28 rfl rfl (hE 136 _ _ _ _ rfl) (hF _ (by decide)) w_1084 w_1081 w_1083 w_50 w_109 rfl (by decide +kernel)) ?_
  refine aSims_c (i := 18) (s_istore_n hC dX7_not4_31 rfl rfl) ?_
  refine aSims_c (i := 19) (s_aload_n hC dX7_not4_32 rfl rfl) ?_
  refine aSims_c (i := 20) (s_dup hC dX7_not4_33 rfl rfl) ?_
  refine aSims_c (i := 21) (s_get hC dX7_not4_34 rfl rfl w_867 rfl rfl inB7 (by decide)) ?_
  refine aSims_c (i := 22) (s_iconst hC dX7_not4_37 rfl rfl rfl) ?_
  refine aSims_c (i := 23) (s_isub hC dX7_not4_38 rfl rfl) ?_
  refine aSims_c (i := 24) (s_put hC dX7_not4_39 rfl rfl w_867 rfl rfl inB7 tyX7_ok nmX7 (by decide) rfl) ?_
  refine aSims_c (i := 25) (s_iload_n hC dX7_not4_42 rfl rfl) ?_
  refine aSims_c (i := 26) (s_if_ne hC dX7_not4_43 rfl rfl rfl) ?_
  refine aSims_c (i := 27) (s_iconst hC dX7_not4_46 rfl rfl rfl) ?_
  refine aSims_c (i := 28) (s_goto hC dX7_not4_47 rfl rfl) ?_
  refine aSims_c (i := 29) (s_iconst hC dX7_not4_50 rfl rfl rfl) ?_
  refine aSims_c (i := 30) (s_iret hC dX7_not4_51 rfl hr hlk nar_qI) ?_
  refine aSims_c (i := 31) (s_aload_n hC dX7_not4_52 rfl rfl) ?_
  refine aSims_c (i := 32) (s_callV (n := 0) hC dX7_not4_53 rfl rfl (hE 141 _ _ _ _ rfl) (hF _ (by decide)) w_1110 w_1107 w_1109 w_56 w_109 rfl (by decide +kernel)) ?_
  refine aSims_c (i := 33) (s_istore_n hC dX7_not4_56 rfl rfl) ?_
  refine aSims_c (i := 34) (s_aload_n hC dX7_not4_57 rfl rfl) ?_
  refine aSims_c (i := 35) (s_bipush hC dX7_not4_58 rfl rfl rfl) ?_
  refine aSims_c (i := 36) (s_callV (n := 1) hC dX7_not4_60 rfl rfl (hE 130 _ _ _ _ rfl) (hF _ (by decide)) w_1100 w_1097 w_1099 w_54 w_109 rfl (by decide +kernel)) ?_
  refine aSims_c (i := 37) (s_if_ne hC dX7_not4_63 rfl rfl rfl) ?_
  refine aSims_c (i := 38) (s_aload_n hC dX7_not4_66 rfl rfl) ?_
  refine aSims_c (i := 39) (s_bipush hC dX7_not4_67 rfl rfl rfl) ?_
  refine aSims_c (i := 40) (s_callV (n := 1) hC dX7_not4_69 rfl rfl (hE 130 _ _ _ _ rfl) (hF _ (by decide)) w_1100 w_1097 w_1099 w_54 w_109 rfl (by decide +kernel)) ?_
  refine aSims_c (i := 41) (s_if_ne hC dX7_not4_72 rfl rfl rfl) ?_
  refine aSims_c (i := 42) (s_iload_n hC dX7_not4_75 rfl rfl) ?_
  refine aSims_c (i := 43) (s_iret hC dX7_not4_76 rfl hr hlk nar_qI) ?_
  refine aSims_c (i := 44) (s_aload_n hC dX7_not4_77 rfl rfl) ?_
  refine aSims_c (i := 45) (s_get hC dX7_not4_78 rfl rfl w_866 rfl rfl inB7 (by decide)) ?_
  refine aSims_c (i := 46) (s_ldc2 hC dX7_not4_81 w_1106 rfl rfl) ?_
  refine aSims_c (i := 47) (s_lcmp hC dX7_not4_84 rfl rfl) ?_
  refine aSims_c (i := 48) (s_if_ne hC dX7_not4_85 rfl rfl rfl) ?_
  refine aSims_c (i := 49) (s_iconst hC dX7_not4_88 rfl rfl rfl) ?_
  refine aSims_c (i := 50) (s_goto hC dX7_not4_89 rfl rfl) ?_
  refine aSims_c (i := 51) (s_iconst hC dX7_not4_92 rfl rfl rfl) ?_
  refine aSims_c (i := 52) (s_istore_n hC dX7_not4_93 rfl rfl) ?_
  refine aSims_c (i := 53) (s_aload_n hC dX7_not4_94 rfl rfl) ?_
  refine aSims_c (i := 54) (s_callV (n := 0) hC dX7_not4_95 rfl rfl (hE 126 _ _ _ _ rfl) (hF _ (by decide)) w_1024 w_1021 w_1023 w_36 w_109 rfl (by decide +kernel)) ?_
  refine aSims_c (i := 55) (s_aload_n hC dX7_not4_98 rfl rfl) ?_
  refine aSims_c (i := 56) (s_callV (n := 0) hC dX7_not4_99 rfl rfl (hE 141 _ _ _ _ rfl) (hF _ (by decide)) w_1110 w_1107 w_1109 w_56 w_109 rfl (by decide +kernel)) ?_
  refine aSims_c (i := 57) (s_istore_n hC dX7_not4_102 rfl rfl) ?_
  refine aSims_c (i := 58) (s_iload_n hC dX7_not4_103 rfl rfl) ?_
  refine aSims_c (i := 59) (s_if_eq hC dX7_not4_104 rfl rfl rfl) ?_
  refine aSims_c (i := 60) (s_iload_n hC dX7_not4_107 rfl rfl) ?_
  refine aSims_c (i := 61) (s_iload_n hC dX7_not4_108 rfl rfl) ?_
  refine aSims_c (i := 62) (s_icmp_ge hC dX7_not4_109 rfl rfl rfl) ?_
  refine aSims_c (i := 63) (s_goto hC dX7_not4_112 rfl rfl) ?_
  refine aSims_c (i := 64) (s_iload_n hC dX7_not4_115 rfl rfl) ?_
  refine aSims_c (i := 65) (s_iload_n hC dX7_not4_116 rfl rfl) ?_
  refine aSims_c (i := 66) (s_icmp_ne hC dX7_not4_117 rfl rfl rfl) ?_
  refine aSims_c (i := 67) (s_iconst hC dX7_not4_120 rfl rfl rfl) ?_
  refine aSims_c (i := 68) (s_goto hC dX7_not4_121 rfl rfl) ?_
  refine aSims_c (i := 69) (s_iconst hC dX7_not4_124 rfl rfl rfl) ?_
  refine aSims_c (i := 70) (s_iret hC dX7_not4_125 rfl hr hlk nar_qI) ?_
  exact aSims_n
set_option maxHeartbeats 4000000 in
set_option maxRecDepth 20000 in
theorem sm_X7_both4 (hC : aC p s m args c cX7_both4 3 RX7 D cA ad bs n0 H0 X) (hF : ∀ ml, ml ≤ 41 → aFit R d ml) (hRm : 16 ≤ R.frames ∧ 1000 ≤ R.locals) (hE : aCalls l D cA ad bs X d E) (hr : meth.sig.returnType = (some .int)) (hlk : meth.locks = false) : aSims (fun f i => aSim p l e R s m args below meth c (aEnd below s args D cA ad bs n0 z0 rv hf) 3 D cA ad bs n0 z0 H0 (apc pc_X7_both4) rv hf E f i) (cd_X7_both4) 0 := by
  unfold cd_X7_both4
  refine aSims_c (i := 0) (s_aload_n hC dX7_both4_0 rfl rfl) ?_
  refine aSims_c (i := 1) (s_callV (n := 0) hC dX7_both4_1 rfl rfl (hE 142 _ _ _ _ rfl) (hF _ (by decide)) w_1080 w_1077 w_1079 w_49 w_109 rfl (by decide +kernel)) ?_
  refine aSims_c (i := 2) (s_istore_n hC dX7_both4_4 rfl rfl) ?_
  refine aSims_c (i := 3) (s_aload_n hC dX7_both4_5 rfl rfl) ?_
  refine aSims_c (i := 4) (s_bipush hC dX7_both4_6 rfl rfl rfl) ?_
  refine aSims_c (i := 5) (s_bipush hC dX7_both4_8 rfl rfl rfl) ?_
  refine aSims_c (i := 6) (s_bipush hC dX7_both4_10 rfl rfl rfl) ?_
  refine aSims_c (i := 7) (s_iconst hC dX7_both4_12 rfl rfl rfl) ?_
  refine aSims_c (i := 8) (s_iconst hC dX7_both4_13 rfl rfl rfl) ?_
  refine aSims_c (i := 9) (s_iconst hC dX7_both4_14 rfl rfl rfl) ?_
  refine aSims_c (i := 10) (s_iconst hC dX7_both4_15 rfl rfl rfl) ?_
  refine aSims_c (i := 11) (s_iconst hC dX7_both4_16 rfl rfl rfl) ?_
  refine aSims_c (i := 12) (s_callV (n := 8) hC dX7_both4_17 rfl rfl (hE 129 _ _ _ _ rfl) (hF _ (by decide)) w_1036 w_1033 w_1035 w_38 w_109 rfl (by decide +kernel)) ?_
  refine aSims_c (i := 13) (s_if_eq hC dX7_both4_20 rfl rfl rfl) ?_
  refine aSims_c (i := 14) (s_aload_n hC dX7_both4_23 rfl rfl) ?_
  refine aSims_c (i := 15) (s_callV (n := 0) hC dX7_both4_24 rfl rfl (hE 126 _ _ _ _ rfl) (hF _ (by decide)) w_1024 w_1021 w_1023 w_36 w_109 rfl (by decide +kernel)) ?_
  refine aSims_c (i := 16) (s_aload_n hC dX7_both4_27 rfl rfl) ?_
  refine aSims_c (i := 17) (s_callV (n := 0) hC dX7_both4_28 rfl rfl (hE 142 _ _ _ _ rfl) (hF _ (by decide)) w_1080 w_1077 w_1079 w_49 w_109 rfl (by decide +kernel)) ?_
  refine aSims_c (i := 18) (s_istore_n hC dX7_both4_31 rfl rfl) ?_
  refine aSims_c (i := 19) (s_iload_n hC dX7_both4_32 rfl rfl) ?_
  refine aSims_c (i := 20) (s_if_eq hC dX7_both4_33 rfl rfl rfl) ?_
  refine aSims_c (i := 21) (s_iload_n hC dX7_both4_36 rfl rfl) ?_
  refine aSims_c (i := 22) (s_if_eq hC dX7_both4_37 rfl rfl rfl) ?_
  refine aSims_c (i := 23) (s_iconst hC dX7_both4_40 rfl rfl rfl) ?_
  refine aSims_c (i := 24) (s_goto hC dX7_both4_41 rfl rfl) ?_
  refine aSims_c (i := 25) (s_iconst hC dX7_both4_44 rfl rfl rfl) ?_
  refine aSims_c (i := 26) (s_istore_n hC dX7_both4_45 rfl rfl) ?_
  refine aSims_c (i := 27) (s_goto hC dX7_both4_46 rfl rfl) ?_
  refine aSims_c (i := 28) (s_iload_n hC dX7_both4_49 rfl rfl) ?_
  refine aSims_c (i := 29) (s_iret hC dX7_both4_50 rfl hr hlk nar_qI) ?_
  exact aSims_n
set_option maxHeartbeats 4000000 in
set_option maxRecDepth 20000 in
theorem sm_X7_either4 (hC : aC p s m args c cX7_either4 3 RX7 D cA ad bs n0 H0 X) (hF : ∀ ml, ml ≤ 41 → aFit R d ml) (hRm : 16 ≤ R.frames ∧ 1000 ≤ R.locals) (hE : aCalls l D cA ad bs X d E) (hr : meth.sig.returnType = (some .int)) (hlk : meth.locks = false) : aSims (fun f i => aSim p l e R s m args below meth c (aEnd below s args D cA ad bs n0 z0 rv hf) 3 D cA ad bs n0 z0 H0 (apc pc_X7_either4) rv hf E f i) (cd_X7_either4) 0 := by
  unfold cd_X7_either4
  refine aSims_c (i := 0) (s_aload_n hC dX7_either4_0 rfl rfl) ?_
  refine aSims_c (i := 1) (s_callV (n := 0) hC dX7_either4_1 rfl rfl (hE 143 _ _ _ _ rfl) (hF _ (by decide)) w_1146 w_1143 w_1145 w_65 w_109 rfl (by decide +kernel)) ?_
  refine aSims_c (i := 2) (s_istore_n hC dX7_either4_4 rfl rfl) ?_
  refine aSims_c (i := 3) (s_aload_n hC dX7_either4_5 rfl rfl) ?_
  refine aSims_c (i := 4) (s_bipush hC dX7_either4_6 rfl rfl rfl) ?_
  refine aSims_c (i := 5) (s_bipush hC dX7_either4_8 rfl rfl rfl) ?_
  refine aSims_c (i := 6) (s_iconst hC dX7_either4_10 rfl rfl rfl) ?_
  refine aSims_c (i := 7) (s_iconst hC dX7_either4_11 rfl rfl rfl) ?_
  refine aSims_c (i := 8) (s_iconst hC dX7_either4_12 rfl rfl rfl) ?_
  refine aSims_c (i := 9) (s_iconst hC dX7_either4_13 rfl rfl rfl) ?_
  refine aSims_c (i := 10) (s_iconst hC dX7_either4_14 rfl rfl rfl) ?_
  refine aSims_c (i := 11) (s_iconst hC dX7_either4_15 rfl rfl rfl) ?_
  refine aSims_c (i := 12) (s_callV (n := 8) hC dX7_either4_16 rfl rfl (hE 129 _ _ _ _ rfl) (hF _ (by decide)) w_1036 w_1033 w_1035 w_38 w_109 rfl (by decide +kernel)) ?_
  refine aSims_c (i := 13) (s_if_eq hC dX7_either4_19 rfl rfl rfl) ?_
  refine aSims_c (i := 14) (s_aload_n hC dX7_either4_22 rfl rfl) ?_
  refine aSims_c (i := 15) (s_callV (n := 0) hC dX7_either4_23 rfl rfl (hE 126 _ _ _ _ rfl) (hF _ (by decide)) w_1024 w_1021 w_1023 w_36 w_109 rfl (by decide +kernel)) ?_
  refine aSims_c (i := 16) (s_aload_n hC dX7_either4_26 rfl rfl) ?_
  refine aSims_c (i := 17) (s_callV (n := 0) hC dX7_either4_27 rfl rfl (hE 143 _ _ _ _ rfl) (hF _ (by decide)) w_1146 w_1143 w_1145 w_65 w_109 rfl (by decide +kernel)) ?_
  refine aSims_c (i := 18) (s_istore_n hC dX7_either4_30 rfl rfl) ?_
  refine aSims_c (i := 19) (s_iload_n hC dX7_either4_31 rfl rfl) ?_
  refine aSims_c (i := 20) (s_if_ne hC dX7_either4_32 rfl rfl rfl) ?_
  refine aSims_c (i := 21) (s_iload_n hC dX7_either4_35 rfl rfl) ?_
  refine aSims_c (i := 22) (s_if_eq hC dX7_either4_36 rfl rfl rfl) ?_
  refine aSims_c (i := 23) (s_iconst hC dX7_either4_39 rfl rfl rfl) ?_
  refine aSims_c (i := 24) (s_goto hC dX7_either4_40 rfl rfl) ?_
  refine aSims_c (i := 25) (s_iconst hC dX7_either4_43 rfl rfl rfl) ?_
  refine aSims_c (i := 26) (s_istore_n hC dX7_either4_44 rfl rfl) ?_
  refine aSims_c (i := 27) (s_goto hC dX7_either4_45 rfl rfl) ?_
  refine aSims_c (i := 28) (s_iload_n hC dX7_either4_48 rfl rfl) ?_
  refine aSims_c (i := 29) (s_iret hC dX7_either4_49 rfl hr hlk nar_qI) ?_
  exact aSims_n
set_option maxHeartbeats 4000000 in
set_option maxRecDepth 20000 in
theorem sm_X7_atom3 (hC : aC p s m args c cX7_atom3 2 RX7 D cA ad bs n0 H0 X) (hF : ∀ ml, ml ≤ 41 → aFit R d ml) (hRm : 16 ≤ R.frames ∧ 1000 ≤ R.locals) (hE : aCalls l D cA ad bs X d E) (hr : meth.sig.returnType = (some .int)) (hlk : meth.locks = false) : aSims (fun f i => aSim p l e R s m args below meth c (aEnd below s args D cA ad bs n0 z0 rv hf) 2 D cA ad bs n0 z0 H0 (apc pc_X7_atom3) rv hf E f i) (cd_X7_atom3) 0 := by
  unfold cd_X7_atom3
  refine aSims_c (i := 0) (s_iconst hC dX7_atom3_0 rfl rfl rfl) ?_
  refine aSims_c (i := 1) (s_istore_n hC dX7_atom3_1 rfl rfl) ?_
  refine aSims_c (i := 2) (s_aload_n hC dX7_atom3_2 rfl rfl) ?_
  refine aSims_c (i := 3) (s_bipush hC dX7_atom3_3 rfl rfl rfl) ?_
  refine aSims_c (i := 4) (s_callV (n := 1) hC dX7_atom3_5 rfl rfl (hE 130 _ _ _ _ rfl) (hF _ (by decide)) w_1100 w_1097 w_1099 w_54 w_109 rfl (by decide +kernel)) ?_
  refine aSims_c (i := 5) (s_if_eq hC dX7_atom3_8 rfl rfl rfl) ?_
  refine aSims_c (i := 6) (s_aload_n hC dX7_atom3_11 rfl rfl) ?_
  refine aSims_c (i := 7) (s_callV (n := 0) hC dX7_atom3_12 rfl rfl (hE 131 _ _ _ _ rfl) (hF _ (by decide)) w_1064 w_1061 w_1063 w_45 w_109 rfl (by decide +kernel)) ?_
  refine aSims_c (i := 8) (s_if_eq hC dX7_atom3_15 rfl rfl rfl) ?_
  refine aSims_c (i := 9) (s_aload_n hC dX7_atom3_18 rfl rfl) ?_
  refine aSims_c (i := 10) (s_callV (n := 0) hC dX7_atom3_19 rfl rfl (hE 139 _ _ _ _ rfl) (hF _ (by decide)) w_1118 w_1115 w_1117 w_58 w_109 rfl (by decide +kernel)) ?_
  refine aSims_c (i := 11) (s_ineg hC dX7_atom3_22 rfl rfl) ?_
  refine aSims_c (i := 12) (s_istore_n hC dX7_atom3_23 rfl rfl) ?_
  refine aSims_c (i := 13) (s_aload_n hC dX7_atom3_24 rfl rfl) ?_
  refine aSims_c (i := 14) (s_dup hC dX7_atom3_25 rfl rfl) ?_
  refine aSims_c (i := 15) (s_get hC dX7_atom3_26 rfl rfl w_867 rfl rfl inB7 (by decide)) ?_
  refine aSims_c (i := 16) (s_iconst hC dX7_atom3_29 rfl rfl rfl) ?_
  refine aSims_c (i := 17) (s_isub hC dX7_atom3_30 rfl rfl) ?_
  refine aSims_c (i := 18) (s_put hC dX7_atom3_31 rfl rfl w_867 rfl rfl inB7 tyX7_ok nmX7 (by decide) rfl) ?_
  refine aSims_c (i := 19) (s_goto hC dX7_atom3_34 rfl rfl) ?_
  refine aSims_c (i := 20) (s_aload_n hC dX7_atom3_37 rfl rfl) ?_
  refine aSims_c (i := 21) (s_bipush hC dX7_atom3_38 rfl rfl rfl) ?_
  refine aSims_c (i := 22) (s_callV (n := 1) hC dX7_atom3_40 rfl rfl (hE 130 _ _ _ _ rfl) (hF _ (by decide)) w_1100 w_1097 w_1099 w_54 w_109 rfl (by decide +kernel)) ?_
  refine aSims_c (i := 23) (s_if_eq hC dX7_atom3_43 rfl rfl rfl) ?_
  refine aSims_c (i := 24) (s_aload_n hC dX7_atom3_46 rfl rfl) ?_
  refine aSims_c (i := 25) (s_callV (n := 0) hC dX7_atom3_47 rfl rfl (hE 131 _ _ _ _ rfl) (hF _ (by decide)) w_1064 w_1061 w_1063 w_45 w_109 rfl (by decide +kernel)) ?_
  refine aSims_c (i := 26) (s_if_eq hC dX7_atom3_50 rfl rfl rfl) ?_
  refine aSims_c (i := 27) (s_aload_n hC dX7_atom3_53 rfl rfl) ?_
  refine aSims_c (i := 28) (s_callV (n := 0) hC dX7_atom3_54 rfl rfl (hE 144 _ _ _ _ rfl) (hF _ (by decide)) w_1142 w_1139 w_1141 w_64 w_109 rfl (by decide +kernel)) ?_
  refine aSims_c (i := 29) (s_istore_n hC dX7_atom3_57 rfl rfl) ?_
  refine aSims_c (i := 30) (s_aload_n hC dX7_atom3_58 rfl rfl) ?_
  refine aSims_c (i := 31) (s_bipush hC dX7_atom3_59 rfl rfl rfl) ?_
  refine aSims_c (i := 32) (s_callV (n := 1) hC dX7_atom3_61 rfl rfl (hE 130 _ _ _ _ rfl) (hF _ (by decide)) w_1100 w_1097 w_1099 w_54 w_109 rfl (by decide +kernel)) ?_
  refine aSims_c (i := 33) (s_if_ne hC dX7_atom3_64 rfl rfl rfl) ?_
  refine aSims_c (i := 34) (s_aload_n hC dX7_atom3_67 rfl rfl) ?_
  refine aSims_c (i := 35) (s_callV (n := 0) hC dX7_atom3_68 rfl rfl (hE 127 _ _ _ _ rfl) (hF _ (by decide)) w_1048 w_1045 w_1047 w_41 w_109 rfl (by decide +kernel)) ?_
  refine aSims_c (i := 36) (s_aload_n hC dX7_atom3_71 rfl rfl) ?_
  refine aSims_c (i := 37) (s_dup hC dX7_atom3_72 rfl rfl) ?_
  refine aSims_c (i := 38) (s_get hC dX7_atom3_73 rfl rfl w_867 rfl rfl inB7 (by decide)) ?_
  refine aSims_c (i := 39) (s_iconst hC dX7_atom3_76 rfl rfl rfl) ?_
  refine aSims_c (i := 40) (s_isub hC dX7_atom3_77 rfl rfl) ?_
  refine aSims_c (i := 41) (s_put hC dX7_atom3_78 rfl rfl w_867 rfl rfl inB7 tyX7_ok nmX7 (by decide) rfl) ?_
  refine aSims_c (i := 42) (s_aload_n hC dX7_atom3_81 rfl rfl) ?_
  refine aSims_c (i := 43) (s_get hC dX7_atom3_82 rfl rfl w_868 rfl rfl inB7 (by decide)) ?_
  refine aSims_c (i := 44) (s_if_ne hC dX7_atom3_85 rfl rfl rfl) ?_
  refine aSims_c (i := 45) (s_aload_n hC dX7_atom3_88 rfl rfl) ?_
  refine aSims_c (i := 46) (s_callV (n := 0) hC dX7_atom3_89 rfl rfl (hE 126 _ _ _ _ rfl) (hF _ (by decide)) w_1024 w_1021 w_1023 w_36 w_109 rfl (by decide +kernel)) ?_
  refine aSims_c (i := 47) (s_goto hC dX7_atom3_92 rfl rfl) ?_
  refine aSims_c (i := 48) (s_aload_n hC dX7_atom3_95 rfl rfl) ?_
  refine aSims_c (i := 49) (s_get hC dX7_atom3_96 rfl rfl w_868 rfl rfl inB7 (by decide)) ?_
  refine aSims_c (i := 50) (s_if_ne hC dX7_atom3_99 rfl rfl rfl) ?_
  refine aSims_c (i := 51) (s_aload_n hC dX7_atom3_102 rfl rfl) ?_
  refine aSims_c (i := 52) (s_get hC dX7_atom3_103 rfl rfl w_864 rfl rfl inB7 (by decide)) ?_
  refine aSims_c (i := 53) (s_iconst hC dX7_atom3_106 rfl rfl rfl) ?_
  refine aSims_c (i := 54) (s_icmp_ne hC dX7_atom3_107 rfl rfl rfl) ?_
  refine aSims_c (i := 55) (s_aload_n hC dX7_atom3_110 rfl rfl) ?_
  refine aSims_c (i := 56) (s_get hC dX7_atom3_111 rfl rfl w_866 rfl rfl inB7 (by decide)) ?_
  refine aSims_c (i := 57) (s_l2i hC dX7_atom3_114 rfl rfl) ?_
  refine aSims_c (i := 58) (s_istore_n hC dX7_atom3_115 rfl rfl) ?_
  refine aSims_c (i := 59) (s_aload_n hC dX7_atom3_116 rfl rfl) ?_
  refine aSims_c (i := 60) (s_callV (n := 0) hC dX7_atom3_117 rfl rfl (hE 126 _ _ _ _ rfl) (hF _ (by decide)) w_1024 w_1021 w_1023 w_36 w_109 rfl (by decide +kernel)) ?_
  refine aSims_c (i := 61) (s_goto hC dX7_atom3_120 rfl rfl) ?_
  refine aSims_c (i := 62) (s_aload_n hC dX7_atom3_123 rfl rfl) ?_
  refine aSims_c (i := 63) (s_get hC dX7_atom3_124 rfl rfl w_868 rfl rfl inB7 (by decide)) ?_
  refine aSims_c (i := 64) (s_if_ne hC dX7_atom3_127 rfl rfl rfl) ?_
  refine aSims_c (i := 65) (s_aload_n hC dX7_atom3_130 rfl rfl) ?_
  refine aSims_c (i := 66) (s_get hC dX7_atom3_131 rfl rfl w_864 rfl rfl inB7 (by decide)) ?_
  refine aSims_c (i := 67) (s_iconst hC dX7_atom3_134 rfl rfl rfl) ?_
  refine aSims_c (i := 68) (s_icmp_ne hC dX7_atom3_135 rfl rfl rfl) ?_
  refine aSims_c (i := 69) (s_aload_n hC dX7_atom3_138 rfl rfl) ?_
  refine aSims_c (i := 70) (s_callV (n := 0) hC dX7_atom3_139 rfl rfl (hE 132 _ _ _ _ rfl) (hF _ (by decide)) w_1104 w_1101 w_1103 w_55 w_109 rfl (by decide +kernel)) ?_
  refine aSims_c (i := 71) (s_istore_n hC dX7_atom3_142 rfl rfl) ?_
  refine aSims_c (i := 72) (s_aload_n hC dX7_atom3_143 rfl rfl) ?_
  refine aSims_c (i := 73) (s_get hC dX7_atom3_144 rfl rfl w_868 rfl rfl inB7 (by decide)) ?_
  refine aSims_c (i := 74) (s_if_ne hC dX7_atom3_147 rfl rfl rfl) ?_
  refine aSims_c (i := 75) (s_aload_n hC dX7_atom3_150 rfl rfl) ?_
  refine aSims_c (i := 76) (s_callV (n := 0) hC dX7_atom3_151 rfl rfl (hE 126 _ _ _ _ rfl) (hF _ (by decide)) w_1024 w_1021 w_1023 w_36 w_109 rfl (by decide +kernel)) ?_
  refine aSims_c (i := 77) (s_goto hC dX7_atom3_154 rfl rfl) ?_
  refine aSims_c (i := 78) (s_aload_n hC dX7_atom3_157 rfl rfl) ?_
  refine aSims_c (i := 79) (s_callV (n := 0) hC dX7_atom3_158 rfl rfl (hE 127 _ _ _ _ rfl) (hF _ (by decide)) w_1048 w_1045 w_1047 w_41 w_109 rfl (by decide +kernel)) ?_
  refine aSims_c (i := 80) (s_iload_n hC dX7_atom3_161 rfl rfl) ?_
  refine aSims_c (i := 81) (s_iret hC dX7_atom3_162 rfl hr hlk nar_qI) ?_
  exact aSims_n
set_option maxHeartbeats 4000000 in
set_option maxRecDepth 20000 in
theorem sm_X7_term3 (hC : aC p s m args c cX7_term3 2 RX7 D cA ad bs n0 H0 X) (hF : ∀ ml, ml ≤ 41 → aFit R d ml) (hRm : 16 ≤ R.frames ∧ 1000 ≤ R.locals) (hE : aCalls l D cA ad bs X d E) (hr : meth.sig.returnType = (some .int)) (hlk : meth.locks = false) : aSims (fun f i => aSim p l e R s m args below meth c (aEnd below s args D cA ad bs n0 z0 rv hf) 2 D cA ad bs n0 z0 H0 (apc pc_X7_term3) rv hf E f i) (cd_X7_term3) 0 := by
  unfold cd_X7_term3
  refine aSims_c (i := 0) (s_aload_n hC dX7_term3_0 rfl rfl) ?_
  refine aSims_c (i := 1) (s_callV (n := 0) hC dX7_term3_1 rfl rfl (hE 145 _ _ _ _ rfl) (hF _ (by decide)) w_1138 w_1135 w_1137 w_63 w_109 rfl (by decide +kernel)) ?_
  refine aSims_c (i := 2) (s_istore_n hC dX7_term3_4 rfl rfl) ?_
  refine aSims_c (i := 3) (s_aload_n hC dX7_term3_5 rfl rfl) ?_
  refine aSims_c (i := 4) (s_bipush hC dX7_term3_6 rfl rfl rfl) ?_
  refine aSims_c (i := 5) (s_callV (n := 1) hC dX7_term3_8 rfl rfl (hE 130 _ _ _ _ rfl) (hF _ (by decide)) w_1100 w_1097 w_1099 w_54 w_109 rfl (by decide +kernel)) ?_
  refine aSims_c (i := 6) (s_if_eq hC dX7_term3_11 rfl rfl rfl) ?_
  refine aSims_c (i := 7) (s_aload_n hC dX7_term3_14 rfl rfl) ?_
  refine aSims_c (i := 8) (s_callV (n := 0) hC dX7_term3_15 rfl rfl (hE 126 _ _ _ _ rfl) (hF _ (by decide)) w_1024 w_1021 w_1023 w_36 w_109 rfl (by decide +kernel)) ?_
  refine aSims_c (i := 9) (s_iload_n hC dX7_term3_18 rfl rfl) ?_
  refine aSims_c (i := 10) (s_aload_n hC dX7_term3_19 rfl rfl) ?_
  refine aSims_c (i := 11) (s_callV (n := 0) hC dX7_term3_20 rfl rfl (hE 145 _ _ _ _ rfl) (hF _ (by decide)) w_1138 w_1135 w_1137 w_63 w_109 rfl (by decide +kernel)) ?_
  refine aSims_c (i := 12) (s_imul hC dX7_term3_23 rfl rfl) ?_
  refine aSims_c (i := 13) (s_istore_n hC dX7_term3_24 rfl rfl) ?_
  refine aSims_c (i := 14) (s_goto hC dX7_term3_25 rfl rfl) ?_
  refine aSims_c (i := 15) (s_iload_n hC dX7_term3_28 rfl rfl) ?_
  refine aSims_c (i := 16) (s_iret hC dX7_term3_29 rfl hr hlk nar_qI) ?_
  exact aSims_n
set_option maxHeartbeats 4000000 in
set_option maxRecDepth 20000 in
theorem sm_X7_added3 (hC : aC p s m args c cX7_added3 4 RX7 D cA ad bs n0 H0 X) (hF : ∀ ml, ml ≤ 41 → aFit R d ml) (hRm : 16 ≤ R.frames ∧ 1000 ≤ R.locals) (hE : aCalls l D cA ad bs X d E) (hr : meth.sig.returnType = (some .int)) (hlk : meth.locks = false) : aSims (fun f i => aSim p l e R s m args below meth c (aEnd below s args D cA ad bs n0 z0 rv hf) 4 D cA ad bs n0 z0 H0 (apc pc_X7_added3) rv hf E f i) (cd_X7_added3) 0 := by
  unfold cd_X7_added3
  refine aSims_c (i := 0) (s_aload_n hC dX7_added3_0 rfl rfl) ?_
  refine aSims_c (i := 1) (s_callV (n := 0) hC dX7_added3_1 rfl rfl (hE 146 _ _ _ _ rfl) (hF _ (by decide)) w_1134 w_1131 w_1133 w_62 w_109 rfl (by decide +kernel)) ?_
  refine aSims_c (i := 2) (s_istore_n hC dX7_added3_4 rfl rfl) ?_
  refine aSims_c (i := 3) (s_aload_n hC dX7_added3_5 rfl rfl) ?_
  refine aSims_c (i := 4) (s_bipush hC dX7_added3_6 rfl rfl rfl) ?_
  refine aSims_c (i := 5) (s_callV (n := 1) hC dX7_added3_8 rfl rfl (hE 130 _ _ _ _ rfl) (hF _ (by decide)) w_1100 w_1097 w_1099 w_54 w_109 rfl (by decide +kernel)) ?_
  refine aSims_c (i := 6) (s_if_ne hC dX7_added3_11 rfl rfl rfl) ?_
  refine aSims_c (i := 7) (s_aload_n hC dX7_added3_14 rfl rfl) ?_
  refine aSims_c (i := 8) (s_bipush hC dX7_added3_15 rfl rfl rfl) ?_
  refine aSims_c (i := 9) (s_callV (n := 1) hC dX7_added3_17 rfl rfl (hE 130 _ _ _ _ rfl) (hF _ (by decide)) w_1100 w_1097 w_1099 w_54 w_109 rfl (by decide +kernel)) ?_
  refine aSims_c (i := 10) (s_if_eq hC dX7_added3_20 rfl rfl rfl) ?_
  refine aSims_c (i := 11) (s_aload_n hC dX7_added3_23 rfl rfl) ?_
  refine aSims_c (i := 12) (s_get hC dX7_added3_24 rfl rfl w_866 rfl rfl inB7 (by decide)) ?_
  refine aSims_c (i := 13) (s_ldc2 hC dX7_added3_27 w_1105 rfl rfl) ?_
  refine aSims_c (i := 14) (s_lcmp hC dX7_added3_30 rfl rfl) ?_
  refine aSims_c (i := 15) (s_if_ne hC dX7_added3_31 rfl rfl rfl) ?_
  refine aSims_c (i := 16) (s_iconst hC dX7_added3_34 rfl rfl rfl) ?_
  refine aSims_c (i := 17) (s_goto hC dX7_added3_35 rfl rfl) ?_
  refine aSims_c (i := 18) (s_iconst hC dX7_added3_38 rfl rfl rfl) ?_
  refine aSims_c (i := 19) (s_istore_n hC dX7_added3_39 rfl rfl) ?_
  refine aSims_c (i := 20) (s_aload_n hC dX7_added3_40 rfl rfl) ?_
  refine aSims_c (i := 21) (s_callV (n := 0) hC dX7_added3_41 rfl rfl (hE 126 _ _ _ _ rfl) (hF _ (by decide)) w_1024 w_1021 w_1023 w_36 w_109 rfl (by decide +kernel)) ?_
  refine aSims_c (i := 22) (s_aload_n hC dX7_added3_44 rfl rfl) ?_
  refine aSims_c (i := 23) (s_callV (n := 0) hC dX7_added3_45 rfl rfl (hE 146 _ _ _ _ rfl) (hF _ (by decide)) w_1134 w_1131 w_1133 w_62 w_109 rfl (by decide +kernel)) ?_
  refine aSims_c (i := 24) (s_istore_n hC dX7_added3_48 rfl rfl) ?_
  refine aSims_c (i := 25) (s_iload_n hC dX7_added3_49 rfl rfl) ?_
  refine aSims_c (i := 26) (s_if_eq hC dX7_added3_50 rfl rfl rfl) ?_
  refine aSims_c (i := 27) (s_iload_n hC dX7_added3_53 rfl rfl) ?_
  refine aSims_c (i := 28) (s_iload_n hC dX7_added3_54 rfl rfl) ?_
  refine aSims_c (i := 29) (s_iadd hC dX7_added3_55 rfl rfl) ?_
  refine aSims_c (i := 30) (s_goto hC dX7_added3_56 rfl rfl) ?_
  refine aSims_c (i := 31) (s_iload_n hC dX7_added3_59 rfl rfl) ?_
  refine aSims_c (i := 32) (s_iload_n hC dX7_added3_60 rfl rfl) ?_
  refine aSims_c (i := 33) (s_isub hC dX7_added3_61 rfl rfl) ?_
  refine aSims_c (i := 34) (s_istore_n hC dX7_added3_62 rfl rfl) ?_
  refine aSims_c (i := 35) (s_goto hC dX7_added3_63 rfl rfl) ?_
  refine aSims_c (i := 36) (s_iload_n hC dX7_added3_66 rfl rfl) ?_
  refine aSims_c (i := 37) (s_iret hC dX7_added3_67 rfl hr hlk nar_qI) ?_
  exact aSims_n
set_option maxHeartbeats 4000000 in
set_option maxRecDepth 20000 in
theorem sm_X7_not3 (hC : aC p s m args c cX7_not3 4 RX7 D cA ad bs n0 H0 X) (hF : ∀ ml, ml ≤ 41 → aFit R d ml) (hRm : 16 ≤ R.frames ∧ 1000 ≤ R.locals) (hE : aCalls l D cA ad bs X d E) (hr : meth.sig.returnType = (some .int)) (hlk : meth.locks = false) : aSims (fun f i => aSim p l e R s m args below meth c (aEnd below s args D cA ad bs n0 z0 rv hf) 4 D cA ad bs n0 z0 H0 (apc pc_X7_not3) rv hf E f i) (cd_X7_not3) 0 := by
  unfold cd_X7_not3
  refine aSims_c (i := 0) (s_aload_n hC dX7_not3_0 rfl rfl) ?_
  refine aSims_c (i := 1) (s_bipush hC dX7_not3_1 rfl rfl rfl) ?_
  refine aSims_c (i := 2) (s_bipush hC dX7_not3_3 rfl rfl rfl) ?_
  refine aSims_c (i := 3) (s_bipush hC dX7_not3_5 rfl rfl rfl) ?_
  refine aSims_c (i := 4) (s_iconst hC dX7_not3_7 rfl rfl rfl) ?_
  refine aSims_c (i := 5) (s_iconst hC dX7_not3_8 rfl rfl rfl) ?_
  refine aSims_c (i := 6) (s_iconst hC dX7_not3_9 rfl rfl rfl) ?_
  refine aSims_c (i := 7) (s_iconst hC dX7_not3_10 rfl rfl rfl) ?_
  refine aSims_c (i := 8) (s_iconst hC dX7_not3_11 rfl rfl rfl) ?_
  refine aSims_c (i := 9) (s_callV (n := 8) hC dX7_not3_12 rfl rfl (hE 129 _ _ _ _ rfl) (hF _ (by decide)) w_1036 w_1033 w_1035 w_38 w_109 rfl (by decide +kernel)) ?_
  refine aSims_c (i := 10) (s_if_eq hC dX7_not3_15 rfl rfl rfl) ?_
  refine aSims_c (i := 11) (s_aload_n hC dX7_not3_18 rfl rfl) ?_
  refine aSims_c (i := 12) (s_callV (n := 0) hC dX7_not3_19 rfl rfl (hE 131 _ _ _ _ rfl) (hF _ (by decide)) w_1064 w_1061 w_1063 w_45 w_109 rfl (by decide +kernel)) ?_
  refine aSims_c (i := 13) (s_if_ne hC dX7_not3_22 rfl rfl rfl) ?_
  refine aSims_c (i := 14) (s_iconst hC dX7_not3_25 rfl rfl rfl) ?_
  refine aSims_c (i := 15) (s_iret hC dX7_not3_26 rfl hr hlk nar_qI) ?_
  refine aSims_c (i := 16) (s_aload_n hC dX7_not3_27 rfl rfl) ?_
  refine aSims_c (i := 17) (s_callV (n := 0) hC dX7_not3_28 rfl rfl (hE 142 _ _ _ _ rfl) (hF _ (by decide)) w_1080 w_1077 w_1079 w_49 w_109 rfl (by decide +kernel)) ?_
  refine aSims_c (i := 18) (s_istore_n hC dX7_not3_31 rfl rfl) ?_
  refine aSims_c (i := 19) (s_aload_n hC dX7_not3_32 rfl rfl) ?_
  refine aSims_c (i := 20) (s_dup hC dX7_not3_33 rfl rfl) ?_
  refine aSims_c (i := 21) (s_get hC dX7_not3_34 rfl rfl w_867 rfl rfl inB7 (by decide)) ?_
  refine aSims_c (i := 22) (s_iconst hC dX7_not3_37 rfl rfl rfl) ?_
  refine aSims_c (i := 23) (s_isub hC dX7_not3_38 rfl rfl) ?_
  refine aSims_c (i := 24) (s_put hC dX7_not3_39 rfl rfl w_867 rfl rfl inB7 tyX7_ok nmX7 (by decide) rfl) ?_
  refine aSims_c (i := 25) (s_iload_n hC dX7_not3_42 rfl rfl) ?_
  refine aSims_c (i := 26) (s_if_ne hC dX7_not3_43 rfl rfl rfl) ?_
  refine aSims_c (i := 27) (s_iconst hC dX7_not3_46 rfl rfl rfl) ?_
  refine aSims_c (i := 28) (s_goto hC dX7_not3_47 rfl rfl) ?_
  refine aSims_c (i := 29) (s_iconst hC dX7_not3_50 rfl rfl rfl) ?_
  refine aSims_c (i := 30) (s_iret hC dX7_not3_51 rfl hr hlk nar_qI) ?_
  refine aSims_c (i := 31) (s_aload_n hC dX7_not3_52 rfl rfl) ?_
  refine aSims_c (i := 32) (s_callV (n := 0) hC dX7_not3_53 rfl rfl (hE 147 _ _ _ _ rfl) (hF _ (by decide)) w_1130 w_1127 w_1129 w_61 w_109 rfl (by decide +kernel)) ?_
  refine aSims_c (i := 33) (s_istore_n hC dX7_not3_56 rfl rfl) ?_
  refine aSims_c (i := 34) (s_aload_n hC dX7_not3_57 rfl rfl) ?_
  refine aSims_c (i := 35) (s_bipush hC dX7_not3_58 rfl rfl rfl) ?_
  refine aSims_c (i := 36) (s_callV (n := 1) hC dX7_not3_60 rfl rfl (hE 130 _ _ _ _ rfl) (hF _ (by decide)) w_1100 w_1097 w_1099 w_54 w_109 rfl (by decide +kernel)) ?_
  refine aSims_c (i := 37) (s_if_ne hC dX7_not3_63 rfl rfl rfl) ?_
  refine aSims_c (i := 38) (s_aload_n hC dX7_not3_66 rfl rfl) ?_
  refine aSims_c (i := 39) (s_bipush hC dX7_not3_67 rfl rfl rfl) ?_
  refine aSims_c (i := 40) (s_callV (n := 1) hC dX7_not3_69 rfl rfl (hE 130 _ _ _ _ rfl) (hF _ (by decide)) w_1100 w_1097 w_1099 w_54 w_109 rfl (by decide +kernel)) ?_
  refine aSims_c (i := 41) (s_if_ne hC dX7_not3_72 rfl rfl rfl) ?_
  refine aSims_c (i := 42) (s_iload_n hC dX7_not3_75 rfl rfl) ?_
  refine aSims_c (i := 43) (s_iret hC dX7_not3_76 rfl hr hlk nar_qI) ?_
  refine aSims_c (i := 44) (s_aload_n hC dX7_not3_77 rfl rfl) ?_
  refine aSims_c (i := 45) (s_get hC dX7_not3_78 rfl rfl w_866 rfl rfl inB7 (by decide)) ?_
  refine aSims_c (i := 46) (s_ldc2 hC dX7_not3_81 w_1106 rfl rfl) ?_
  refine aSims_c (i := 47) (s_lcmp hC dX7_not3_84 rfl rfl) ?_
  refine aSims_c (i := 48) (s_if_ne hC dX7_not3_85 rfl rfl rfl) ?_
  refine aSims_c (i := 49) (s_iconst hC dX7_not3_88 rfl rfl rfl) ?_
  refine aSims_c (i := 50) (s_goto hC dX7_not3_89 rfl rfl) ?_
  refine aSims_c (i := 51) (s_iconst hC dX7_not3_92 rfl rfl rfl) ?_
  refine aSims_c (i := 52) (s_istore_n hC dX7_not3_93 rfl rfl) ?_
  refine aSims_c (i := 53) (s_aload_n hC dX7_not3_94 rfl rfl) ?_
  refine aSims_c (i := 54) (s_callV (n := 0) hC dX7_not3_95 rfl rfl (hE 126 _ _ _ _ rfl) (hF _ (by decide)) w_1024 w_1021 w_1023 w_36 w_109 rfl (by decide +kernel)) ?_
  refine aSims_c (i := 55) (s_aload_n hC dX7_not3_98 rfl rfl) ?_
  refine aSims_c (i := 56) (s_callV (n := 0) hC dX7_not3_99 rfl rfl (hE 147 _ _ _ _ rfl) (hF _ (by decide)) w_1130 w_1127 w_1129 w_61 w_109 rfl (by decide +kernel)) ?_
  refine aSims_c (i := 57) (s_istore_n hC dX7_not3_102 rfl rfl) ?_
  refine aSims_c (i := 58) (s_iload_n hC dX7_not3_103 rfl rfl) ?_
  refine aSims_c (i := 59) (s_if_eq hC dX7_not3_104 rfl rfl rfl) ?_
  refine aSims_c (i := 60) (s_iload_n hC dX7_not3_107 rfl rfl) ?_
  refine aSims_c (i := 61) (s_iload_n hC dX7_not3_108 rfl rfl) ?_
  refine aSims_c (i := 62) (s_icmp_ge hC dX7_not3_109 rfl rfl rfl) ?_
  refine aSims_c (i := 63) (s_goto hC dX7_not3_112 rfl rfl) ?_
  refine aSims_c (i := 64) (s_iload_n hC dX7_not3_115 rfl rfl) ?_
  refine aSims_c (i := 65) (s_iload_n hC dX7_not3_116 rfl rfl) ?_
  refine aSims_c (i := 66) (s_icmp_ne hC dX7_not3_117 rfl rfl rfl) ?_
  refine aSims_c (i := 67) (s_iconst hC dX7_not3_120 rfl rfl rfl) ?_
  refine aSims_c (i := 68) (s_goto hC dX7_not3_121 rfl rfl) ?_
  refine aSims_c (i := 69) (s_iconst hC dX7_not3_124 rfl rfl rfl) ?_
  refine aSims_c (i := 70) (s_iret hC dX7_not3_125 rfl hr hlk nar_qI) ?_
  exact aSims_n
set_option maxHeartbeats 4000000 in
set_option maxRecDepth 20000 in
theorem sm_X7_both3 (hC : aC p s m args c cX7_both3 3 RX7 D cA ad bs n0 H0 X) (hF : ∀ ml, ml ≤ 41 → aFit R d ml) (hRm : 16 ≤ R.frames ∧ 1000 ≤ R.locals) (hE : aCalls l D cA ad bs X d E) (hr : meth.sig.returnType = (some .int)) (hlk : meth.locks = false) : aSims (fun f i => aSim p l e R s m args below meth c (aEnd below s args D cA ad bs n0 z0 rv hf) 3 D cA ad bs n0 z0 H0 (apc pc_X7_both3) rv hf E f i) (cd_X7_both3) 0 := by
  unfold cd_X7_both3
  refine aSims_c (i := 0) (s_aload_n hC dX7_both3_0 rfl rfl) ?_
  refine aSims_c (i := 1) (s_callV (n := 0) hC dX7_both3_1 rfl rfl (hE 148 _ _ _ _ rfl) (hF _ (by decide)) w_1076 w_1073 w_1075 w_48 w_109 rfl (by decide +kernel)) ?_
  refine aSims_c (i := 2) (s_istore_n hC dX7_both3_4 rfl rfl) ?_
  refine aSims_c (i := 3) (s_aload_n hC dX7_both3_5 rfl rfl) ?_
  refine aSims_c (i := 4) (s_bipush hC dX7_both3_6 rfl rfl rfl) ?_
  refine aSims_c (i := 5) (s_bipush hC dX7_both3_8 rfl rfl rfl) ?_
  refine aSims_c (i := 6) (s_bipush hC dX7_both3_10 rfl rfl rfl) ?_
  refine aSims_c (i := 7) (s_iconst hC dX7_both3_12 rfl rfl rfl) ?_
  refine aSims_c (i := 8) (s_iconst hC dX7_both3_13 rfl rfl rfl) ?_
  refine aSims_c (i := 9) (s_iconst hC dX7_both3_14 rfl rfl rfl) ?_
  refine aSims_c (i := 10) (s_iconst hC dX7_both3_15 rfl rfl rfl) ?_
  refine aSims_c (i := 11) (s_iconst hC dX7_both3_16 rfl rfl rfl) ?_
  refine aSims_c (i := 12) (s_callV (n := 8) hC dX7_both3_17 rfl rfl (hE 129 _ _ _ _ rfl) (hF _ (by decide)) w_1036 w_1033 w_1035 w_38 w_109 rfl (by decide +kernel)) ?_
  refine aSims_c (i := 13) (s_if_eq hC dX7_both3_20 rfl rfl rfl) ?_
  refine aSims_c (i := 14) (s_aload_n hC dX7_both3_23 rfl rfl) ?_
  refine aSims_c (i := 15) (s_callV (n := 0) hC dX7_both3_24 rfl rfl (hE 126 _ _ _ _ rfl) (hF _ (by decide)) w_1024 w_1021 w_1023 w_36 w_109 rfl (by decide +kernel)) ?_
  refine aSims_c (i := 16) (s_aload_n hC dX7_both3_27 rfl rfl) ?_
  refine aSims_c (i := 17) (s_callV (n := 0) hC dX7_both3_28 rfl rfl (hE 148 _ _ _ _ rfl) (hF _ (by decide)) w_1076 w_1073 w_1075 w_48 w_109 rfl (by decide +kernel)) ?_
  refine aSims_c (i := 18) (s_istore_n hC dX7_both3_31 rfl rfl) ?_
  refine aSims_c (i := 19) (s_iload_n hC dX7_both3_32 rfl rfl) ?_
  refine aSims_c (i := 20) (s_if_eq hC dX7_both3_33 rfl rfl rfl) ?_
  refine aSims_c (i := 21) (s_iload_n hC dX7_both3_36 rfl rfl) ?_
  refine aSims_c (i := 22) (s_if_eq hC dX7_both3_37 rfl rfl rfl) ?_
  refine aSims_c (i := 23) (s_iconst hC dX7_both3_40 rfl rfl rfl) ?_
  refine aSims_c (i := 24) (s_goto hC dX7_both3_41 rfl rfl) ?_
  refine aSims_c (i := 25) (s_iconst hC dX7_both3_44 rfl rfl rfl) ?_
  refine aSims_c (i := 26) (s_istore_n hC dX7_both3_45 rfl rfl) ?_
  refine aSims_c (i := 27) (s_goto hC dX7_both3_46 rfl rfl) ?_
  refine aSims_c (i := 28) (s_iload_n hC dX7_both3_49 rfl rfl) ?_
  refine aSims_c (i := 29) (s_iret hC dX7_both3_50 rfl hr hlk nar_qI) ?_
  exact aSims_n
set_option maxHeartbeats 4000000 in
set_option maxRecDepth 20000 in
theorem sm_X7_either3 (hC : aC p s m args c cX7_either3 3 RX7 D cA ad bs n0 H0 X) (hF : ∀ ml, ml ≤ 41 → aFit R d ml) (hRm : 16 ≤ R.frames ∧ 1000 ≤ R.locals) (hE : aCalls l D cA ad bs X d E) (hr : meth.sig.returnType = (some .int)) (hlk : meth.locks = false) : aSims (fun f i => aSim p l e R s m args below meth c (aEnd below s args D cA ad bs n0 z0 rv hf) 3 D cA ad bs n0 z0 H0 (apc pc_X7_either3) rv hf E f i) (cd_X7_either3) 0 := by
  unfold cd_X7_either3
  refine aSims_c (i := 0) (s_aload_n hC dX7_either3_0 rfl rfl) ?_
  refine aSims_c (i := 1) (s_callV (n := 0) hC dX7_either3_1 rfl rfl (hE 149 _ _ _ _ rfl) (hF _ (by decide)) w_1166 w_1163 w_1165 w_70 w_109 rfl (by decide +kernel)) ?_
  refine aSims_c (i := 2) (s_istore_n hC dX7_either3_4 rfl rfl) ?_
  refine aSims_c (i := 3) (s_aload_n hC dX7_either3_5 rfl rfl) ?_
  refine aSims_c (i := 4) (s_bipush hC dX7_either3_6 rfl rfl rfl) ?_
  refine aSims_c (i := 5) (s_bipush hC dX7_either3_8 rfl rfl rfl) ?_
  refine aSims_c (i := 6) (s_iconst hC dX7_either3_10 rfl rfl rfl) ?_
  refine aSims_c (i := 7) (s_iconst hC dX7_either3_11 rfl rfl rfl) ?_
  refine aSims_c (i := 8) (s_iconst hC dX7_either3_12 rfl rfl rfl) ?_
  refine aSims_c (i := 9) (s_iconst hC dX7_either3_13 rfl rfl rfl) ?_
  refine aSims_c (i := 10) (s_iconst hC dX7_either3_14 rfl rfl rfl) ?_
  refine aSims_c (i := 11) (s_iconst hC dX7_either3_15 rfl rfl rfl) ?_
  refine aSims_c (i := 12) (s_callV (n := 8) hC dX7_either3_16 rfl rfl (hE 129 _ _ _ _ rfl) (hF _ (by decide)) w_1036 w_1033 w_1035 w_38 w_109 rfl (by decide +kernel)) ?_
  refine aSims_c (i := 13) (s_if_eq hC dX7_either3_19 rfl rfl rfl) ?_
  refine aSims_c (i := 14) (s_aload_n hC dX7_either3_22 rfl rfl) ?_
  refine aSims_c (i := 15) (s_callV (n := 0) hC dX7_either3_23 rfl rfl (hE 126 _ _ _ _ rfl) (hF _ (by decide)) w_1024 w_1021 w_1023 w_36 w_109 rfl (by decide +kernel)) ?_
  refine aSims_c (i := 16) (s_aload_n hC dX7_either3_26 rfl rfl) ?_
  refine aSims_c (i := 17) (s_callV (n := 0) hC dX7_either3_27 rfl rfl (hE 149 _ _ _ _ rfl) (hF _ (by decide)) w_1166 w_1163 w_1165 w_70 w_109 rfl (by decide +kernel)) ?_
  refine aSims_c (i := 18) (s_istore_n hC dX7_either3_30 rfl rfl) ?_
  refine aSims_c (i := 19) (s_iload_n hC dX7_either3_31 rfl rfl) ?_
  refine aSims_c (i := 20) (s_if_ne hC dX7_either3_32 rfl rfl rfl) ?_
  refine aSims_c (i := 21) (s_iload_n hC dX7_either3_35 rfl rfl) ?_
  refine aSims_c (i := 22) (s_if_eq hC dX7_either3_36 rfl rfl rfl) ?_
  refine aSims_c (i := 23) (s_iconst hC dX7_either3_39 rfl rfl rfl) ?_
  refine aSims_c (i := 24) (s_goto hC dX7_either3_40 rfl rfl) ?_
  refine aSims_c (i := 25) (s_iconst hC dX7_either3_43 rfl rfl rfl) ?_
  refine aSims_c (i := 26) (s_istore_n hC dX7_either3_44 rfl rfl) ?_
  refine aSims_c (i := 27) (s_goto hC dX7_either3_45 rfl rfl) ?_
  refine aSims_c (i := 28) (s_iload_n hC dX7_either3_48 rfl rfl) ?_
  refine aSims_c (i := 29) (s_iret hC dX7_either3_49 rfl hr hlk nar_qI) ?_
  exact aSims_n
end SIM
