/-! each method's instructions are simulated (written by wip/whole/gen.py) -/
theorem dX7_atom2_0 : decode cX7_atom2 0 = .ok (.iconst 0, 1) := by decide +kernel
theorem dX7_atom2_1 : decode cX7_atom2 1 = .ok (.istore_n 1, 1) := by decide +kernel
theorem dX7_atom2_2 : decode cX7_atom2 2 = .ok (.aload_n 0, 1) := by decide +kernel
theorem dX7_atom2_3 : decode cX7_atom2 3 = .ok (.bipush 45, 2) := by decide +kernel
theorem dX7_atom2_5 : decode cX7_atom2 5 = .ok (.invokevirtual 210, 3) := by decide +kernel
theorem dX7_atom2_8 : decode cX7_atom2 8 = .ok (.ifCond .eq 29, 3) := by decide +kernel
theorem dX7_atom2_11 : decode cX7_atom2 11 = .ok (.aload_n 0, 1) := by decide +kernel
theorem dX7_atom2_12 : decode cX7_atom2 12 = .ok (.invokevirtual 213, 3) := by decide +kernel
theorem dX7_atom2_15 : decode cX7_atom2 15 = .ok (.ifCond .eq 146, 3) := by decide +kernel
theorem dX7_atom2_18 : decode cX7_atom2 18 = .ok (.aload_n 0, 1) := by decide +kernel
theorem dX7_atom2_19 : decode cX7_atom2 19 = .ok (.invokevirtual 261, 3) := by decide +kernel
theorem dX7_atom2_22 : decode cX7_atom2 22 = .ok (.ineg, 1) := by decide +kernel
theorem dX7_atom2_23 : decode cX7_atom2 23 = .ok (.istore_n 1, 1) := by decide +kernel
theorem dX7_atom2_24 : decode cX7_atom2 24 = .ok (.aload_n 0, 1) := by decide +kernel
theorem dX7_atom2_25 : decode cX7_atom2 25 = .ok (.dup, 1) := by decide +kernel
theorem dX7_atom2_26 : decode cX7_atom2 26 = .ok (.getfield 179, 3) := by decide +kernel
theorem dX7_atom2_29 : decode cX7_atom2 29 = .ok (.iconst 1, 1) := by decide +kernel
theorem dX7_atom2_30 : decode cX7_atom2 30 = .ok (.isub, 1) := by decide +kernel
theorem dX7_atom2_31 : decode cX7_atom2 31 = .ok (.putfield 179, 3) := by decide +kernel
theorem dX7_atom2_34 : decode cX7_atom2 34 = .ok (.goto 127, 3) := by decide +kernel
theorem dX7_atom2_37 : decode cX7_atom2 37 = .ok (.aload_n 0, 1) := by decide +kernel
theorem dX7_atom2_38 : decode cX7_atom2 38 = .ok (.bipush 40, 2) := by decide +kernel
theorem dX7_atom2_40 : decode cX7_atom2 40 = .ok (.invokevirtual 210, 3) := by decide +kernel
theorem dX7_atom2_43 : decode cX7_atom2 43 = .ok (.ifCond .eq 52, 3) := by decide +kernel
theorem dX7_atom2_46 : decode cX7_atom2 46 = .ok (.aload_n 0, 1) := by decide +kernel
theorem dX7_atom2_47 : decode cX7_atom2 47 = .ok (.invokevirtual 213, 3) := by decide +kernel
theorem dX7_atom2_50 : decode cX7_atom2 50 = .ok (.ifCond .eq 111, 3) := by decide +kernel
theorem dX7_atom2_53 : decode cX7_atom2 53 = .ok (.aload_n 0, 1) := by decide +kernel
theorem dX7_atom2_54 : decode cX7_atom2 54 = .ok (.invokevirtual 276, 3) := by decide +kernel
theorem dX7_atom2_57 : decode cX7_atom2 57 = .ok (.istore_n 1, 1) := by decide +kernel
theorem dX7_atom2_58 : decode cX7_atom2 58 = .ok (.aload_n 0, 1) := by decide +kernel
theorem dX7_atom2_59 : decode cX7_atom2 59 = .ok (.bipush 41, 2) := by decide +kernel
theorem dX7_atom2_61 : decode cX7_atom2 61 = .ok (.invokevirtual 210, 3) := by decide +kernel
theorem dX7_atom2_64 : decode cX7_atom2 64 = .ok (.ifCond .ne 7, 3) := by decide +kernel
theorem dX7_atom2_67 : decode cX7_atom2 67 = .ok (.aload_n 0, 1) := by decide +kernel
theorem dX7_atom2_68 : decode cX7_atom2 68 = .ok (.invokevirtual 182, 3) := by decide +kernel
theorem dX7_atom2_71 : decode cX7_atom2 71 = .ok (.aload_n 0, 1) := by decide +kernel
theorem dX7_atom2_72 : decode cX7_atom2 72 = .ok (.dup, 1) := by decide +kernel
theorem dX7_atom2_73 : decode cX7_atom2 73 = .ok (.getfield 179, 3) := by decide +kernel
theorem dX7_atom2_76 : decode cX7_atom2 76 = .ok (.iconst 1, 1) := by decide +kernel
theorem dX7_atom2_77 : decode cX7_atom2 77 = .ok (.isub, 1) := by decide +kernel
theorem dX7_atom2_78 : decode cX7_atom2 78 = .ok (.putfield 179, 3) := by decide +kernel
theorem dX7_atom2_81 : decode cX7_atom2 81 = .ok (.aload_n 0, 1) := by decide +kernel
theorem dX7_atom2_82 : decode cX7_atom2 82 = .ok (.getfield 169, 3) := by decide +kernel
theorem dX7_atom2_85 : decode cX7_atom2 85 = .ok (.ifCond .ne 76, 3) := by decide +kernel
theorem dX7_atom2_88 : decode cX7_atom2 88 = .ok (.aload_n 0, 1) := by decide +kernel
theorem dX7_atom2_89 : decode cX7_atom2 89 = .ok (.invokevirtual 185, 3) := by decide +kernel
theorem dX7_atom2_92 : decode cX7_atom2 92 = .ok (.goto 69, 3) := by decide +kernel
theorem dX7_atom2_95 : decode cX7_atom2 95 = .ok (.aload_n 0, 1) := by decide +kernel
theorem dX7_atom2_96 : decode cX7_atom2 96 = .ok (.getfield 169, 3) := by decide +kernel
theorem dX7_atom2_99 : decode cX7_atom2 99 = .ok (.ifCond .ne 24, 3) := by decide +kernel
theorem dX7_atom2_102 : decode cX7_atom2 102 = .ok (.aload_n 0, 1) := by decide +kernel
theorem dX7_atom2_103 : decode cX7_atom2 103 = .ok (.getfield 154, 3) := by decide +kernel
theorem dX7_atom2_106 : decode cX7_atom2 106 = .ok (.iconst 2, 1) := by decide +kernel
theorem dX7_atom2_107 : decode cX7_atom2 107 = .ok (.if_icmp .ne 16, 3) := by decide +kernel
theorem dX7_atom2_110 : decode cX7_atom2 110 = .ok (.aload_n 0, 1) := by decide +kernel
theorem dX7_atom2_111 : decode cX7_atom2 111 = .ok (.getfield 165, 3) := by decide +kernel
theorem dX7_atom2_114 : decode cX7_atom2 114 = .ok (.l2i, 1) := by decide +kernel
theorem dX7_atom2_115 : decode cX7_atom2 115 = .ok (.istore_n 1, 1) := by decide +kernel
theorem dX7_atom2_116 : decode cX7_atom2 116 = .ok (.aload_n 0, 1) := by decide +kernel
theorem dX7_atom2_117 : decode cX7_atom2 117 = .ok (.invokevirtual 185, 3) := by decide +kernel
theorem dX7_atom2_120 : decode cX7_atom2 120 = .ok (.goto 41, 3) := by decide +kernel
theorem dX7_atom2_123 : decode cX7_atom2 123 = .ok (.aload_n 0, 1) := by decide +kernel
theorem dX7_atom2_124 : decode cX7_atom2 124 = .ok (.getfield 169, 3) := by decide +kernel
theorem dX7_atom2_127 : decode cX7_atom2 127 = .ok (.ifCond .ne 30, 3) := by decide +kernel
theorem dX7_atom2_130 : decode cX7_atom2 130 = .ok (.aload_n 0, 1) := by decide +kernel
theorem dX7_atom2_131 : decode cX7_atom2 131 = .ok (.getfield 154, 3) := by decide +kernel
theorem dX7_atom2_134 : decode cX7_atom2 134 = .ok (.iconst 1, 1) := by decide +kernel
theorem dX7_atom2_135 : decode cX7_atom2 135 = .ok (.if_icmp .ne 22, 3) := by decide +kernel
theorem dX7_atom2_138 : decode cX7_atom2 138 = .ok (.aload_n 0, 1) := by decide +kernel
theorem dX7_atom2_139 : decode cX7_atom2 139 = .ok (.invokevirtual 217, 3) := by decide +kernel
theorem dX7_atom2_142 : decode cX7_atom2 142 = .ok (.istore_n 1, 1) := by decide +kernel
theorem dX7_atom2_143 : decode cX7_atom2 143 = .ok (.aload_n 0, 1) := by decide +kernel
theorem dX7_atom2_144 : decode cX7_atom2 144 = .ok (.getfield 169, 3) := by decide +kernel
theorem dX7_atom2_147 : decode cX7_atom2 147 = .ok (.ifCond .ne 14, 3) := by decide +kernel
theorem dX7_atom2_150 : decode cX7_atom2 150 = .ok (.aload_n 0, 1) := by decide +kernel
theorem dX7_atom2_151 : decode cX7_atom2 151 = .ok (.invokevirtual 185, 3) := by decide +kernel
theorem dX7_atom2_154 : decode cX7_atom2 154 = .ok (.goto 7, 3) := by decide +kernel
theorem dX7_atom2_157 : decode cX7_atom2 157 = .ok (.aload_n 0, 1) := by decide +kernel
theorem dX7_atom2_158 : decode cX7_atom2 158 = .ok (.invokevirtual 182, 3) := by decide +kernel
theorem dX7_atom2_161 : decode cX7_atom2 161 = .ok (.iload_n 1, 1) := by decide +kernel
theorem dX7_atom2_162 : decode cX7_atom2 162 = .ok (.ireturn, 1) := by decide +kernel
theorem dX7_term2_0 : decode cX7_term2 0 = .ok (.aload_n 0, 1) := by decide +kernel
theorem dX7_term2_1 : decode cX7_term2 1 = .ok (.invokevirtual 279, 3) := by decide +kernel
theorem dX7_term2_4 : decode cX7_term2 4 = .ok (.istore_n 1, 1) := by decide +kernel
theorem dX7_term2_5 : decode cX7_term2 5 = .ok (.aload_n 0, 1) := by decide +kernel
theorem dX7_term2_6 : decode cX7_term2 6 = .ok (.bipush 42, 2) := by decide +kernel
theorem dX7_term2_8 : decode cX7_term2 8 = .ok (.invokevirtual 210, 3) := by decide +kernel
theorem dX7_term2_11 : decode cX7_term2 11 = .ok (.ifCond .eq 17, 3) := by decide +kernel
theorem dX7_term2_14 : decode cX7_term2 14 = .ok (.aload_n 0, 1) := by decide +kernel
theorem dX7_term2_15 : decode cX7_term2 15 = .ok (.invokevirtual 185, 3) := by decide +kernel
theorem dX7_term2_18 : decode cX7_term2 18 = .ok (.iload_n 1, 1) := by decide +kernel
theorem dX7_term2_19 : decode cX7_term2 19 = .ok (.aload_n 0, 1) := by decide +kernel
theorem dX7_term2_20 : decode cX7_term2 20 = .ok (.invokevirtual 279, 3) := by decide +kernel
theorem dX7_term2_23 : decode cX7_term2 23 = .ok (.imul, 1) := by decide +kernel
theorem dX7_term2_24 : decode cX7_term2 24 = .ok (.istore_n 1, 1) := by decide +kernel
theorem dX7_term2_25 : decode cX7_term2 25 = .ok (.goto (-20), 3) := by decide +kernel
theorem dX7_term2_28 : decode cX7_term2 28 = .ok (.iload_n 1, 1) := by decide +kernel
theorem dX7_term2_29 : decode cX7_term2 29 = .ok (.ireturn, 1) := by decide +kernel
theorem dX7_added2_0 : decode cX7_added2 0 = .ok (.aload_n 0, 1) := by decide +kernel
theorem dX7_added2_1 : decode cX7_added2 1 = .ok (.invokevirtual 282, 3) := by decide +kernel
theorem dX7_added2_4 : decode cX7_added2 4 = .ok (.istore_n 1, 1) := by decide +kernel
theorem dX7_added2_5 : decode cX7_added2 5 = .ok (.aload_n 0, 1) := by decide +kernel
theorem dX7_added2_6 : decode cX7_added2 6 = .ok (.bipush 43, 2) := by decide +kernel
theorem dX7_added2_8 : decode cX7_added2 8 = .ok (.invokevirtual 210, 3) := by decide +kernel
theorem dX7_added2_11 : decode cX7_added2 11 = .ok (.ifCond .ne 12, 3) := by decide +kernel
theorem dX7_added2_14 : decode cX7_added2 14 = .ok (.aload_n 0, 1) := by decide +kernel
theorem dX7_added2_15 : decode cX7_added2 15 = .ok (.bipush 45, 2) := by decide +kernel
theorem dX7_added2_17 : decode cX7_added2 17 = .ok (.invokevirtual 210, 3) := by decide +kernel
theorem dX7_added2_20 : decode cX7_added2 20 = .ok (.ifCond .eq 46, 3) := by decide +kernel
theorem dX7_added2_23 : decode cX7_added2 23 = .ok (.aload_n 0, 1) := by decide +kernel
theorem dX7_added2_24 : decode cX7_added2 24 = .ok (.getfield 165, 3) := by decide +kernel
theorem dX7_added2_27 : decode cX7_added2 27 = .ok (.ldc2_w 227, 3) := by decide +kernel
theorem dX7_added2_30 : decode cX7_added2 30 = .ok (.lcmp, 1) := by decide +kernel
theorem dX7_added2_31 : decode cX7_added2 31 = .ok (.ifCond .ne 7, 3) := by decide +kernel
theorem dX7_added2_34 : decode cX7_added2 34 = .ok (.iconst 1, 1) := by decide +kernel
theorem dX7_added2_35 : decode cX7_added2 35 = .ok (.goto 4, 3) := by decide +kernel
theorem dX7_added2_38 : decode cX7_added2 38 = .ok (.iconst 0, 1) := by decide +kernel
theorem dX7_added2_39 : decode cX7_added2 39 = .ok (.istore_n 2, 1) := by decide +kernel
theorem dX7_added2_40 : decode cX7_added2 40 = .ok (.aload_n 0, 1) := by decide +kernel
theorem dX7_added2_41 : decode cX7_added2 41 = .ok (.invokevirtual 185, 3) := by decide +kernel
theorem dX7_added2_44 : decode cX7_added2 44 = .ok (.aload_n 0, 1) := by decide +kernel
theorem dX7_added2_45 : decode cX7_added2 45 = .ok (.invokevirtual 282, 3) := by decide +kernel
theorem dX7_added2_48 : decode cX7_added2 48 = .ok (.istore_n 3, 1) := by decide +kernel
theorem dX7_added2_49 : decode cX7_added2 49 = .ok (.iload_n 2, 1) := by decide +kernel
theorem dX7_added2_50 : decode cX7_added2 50 = .ok (.ifCond .eq 9, 3) := by decide +kernel
theorem dX7_added2_53 : decode cX7_added2 53 = .ok (.iload_n 1, 1) := by decide +kernel
theorem dX7_added2_54 : decode cX7_added2 54 = .ok (.iload_n 3, 1) := by decide +kernel
theorem dX7_added2_55 : decode cX7_added2 55 = .ok (.iadd, 1) := by decide +kernel
theorem dX7_added2_56 : decode cX7_added2 56 = .ok (.goto 6, 3) := by decide +kernel
theorem dX7_added2_59 : decode cX7_added2 59 = .ok (.iload_n 1, 1) := by decide +kernel
theorem dX7_added2_60 : decode cX7_added2 60 = .ok (.iload_n 3, 1) := by decide +kernel
theorem dX7_added2_61 : decode cX7_added2 61 = .ok (.isub, 1) := by decide +kernel
theorem dX7_added2_62 : decode cX7_added2 62 = .ok (.istore_n 1, 1) := by decide +kernel
theorem dX7_added2_63 : decode cX7_added2 63 = .ok (.goto (-58), 3) := by decide +kernel
theorem dX7_added2_66 : decode cX7_added2 66 = .ok (.iload_n 1, 1) := by decide +kernel
theorem dX7_added2_67 : decode cX7_added2 67 = .ok (.ireturn, 1) := by decide +kernel
theorem dX7_not2_0 : decode cX7_not2 0 = .ok (.aload_n 0, 1) := by decide +kernel
theorem dX7_not2_1 : decode cX7_not2 1 = .ok (.bipush 110, 2) := by decide +kernel
theorem dX7_not2_3 : decode cX7_not2 3 = .ok (.bipush 111, 2) := by decide +kernel
theorem dX7_not2_5 : decode cX7_not2 5 = .ok (.bipush 116, 2) := by decide +kernel
theorem dX7_not2_7 : decode cX7_not2 7 = .ok (.iconst 0, 1) := by decide +kernel
theorem dX7_not2_8 : decode cX7_not2 8 = .ok (.iconst 0, 1) := by decide +kernel
theorem dX7_not2_9 : decode cX7_not2 9 = .ok (.iconst 0, 1) := by decide +kernel
theorem dX7_not2_10 : decode cX7_not2 10 = .ok (.iconst 0, 1) := by decide +kernel
theorem dX7_not2_11 : decode cX7_not2 11 = .ok (.iconst 0, 1) := by decide +kernel
theorem dX7_not2_12 : decode cX7_not2 12 = .ok (.invokevirtual 188, 3) := by decide +kernel
theorem dX7_not2_15 : decode cX7_not2 15 = .ok (.ifCond .eq 37, 3) := by decide +kernel
theorem dX7_not2_18 : decode cX7_not2 18 = .ok (.aload_n 0, 1) := by decide +kernel
theorem dX7_not2_19 : decode cX7_not2 19 = .ok (.invokevirtual 213, 3) := by decide +kernel
theorem dX7_not2_22 : decode cX7_not2 22 = .ok (.ifCond .ne 5, 3) := by decide +kernel
theorem dX7_not2_25 : decode cX7_not2 25 = .ok (.iconst 0, 1) := by decide +kernel
theorem dX7_not2_26 : decode cX7_not2 26 = .ok (.ireturn, 1) := by decide +kernel
theorem dX7_not2_27 : decode cX7_not2 27 = .ok (.aload_n 0, 1) := by decide +kernel
theorem dX7_not2_28 : decode cX7_not2 28 = .ok (.invokevirtual 270, 3) := by decide +kernel
theorem dX7_not2_31 : decode cX7_not2 31 = .ok (.istore_n 1, 1) := by decide +kernel
theorem dX7_not2_32 : decode cX7_not2 32 = .ok (.aload_n 0, 1) := by decide +kernel
theorem dX7_not2_33 : decode cX7_not2 33 = .ok (.dup, 1) := by decide +kernel
theorem dX7_not2_34 : decode cX7_not2 34 = .ok (.getfield 179, 3) := by decide +kernel
theorem dX7_not2_37 : decode cX7_not2 37 = .ok (.iconst 1, 1) := by decide +kernel
theorem dX7_not2_38 : decode cX7_not2 38 = .ok (.isub, 1) := by decide +kernel
theorem dX7_not2_39 : decode cX7_not2 39 = .ok (.putfield 179, 3) := by decide +kernel
theorem dX7_not2_42 : decode cX7_not2 42 = .ok (.iload_n 1, 1) := by decide +kernel
theorem dX7_not2_43 : decode cX7_not2 43 = .ok (.ifCond .ne 7, 3) := by decide +kernel
theorem dX7_not2_46 : decode cX7_not2 46 = .ok (.iconst 1, 1) := by decide +kernel
theorem dX7_not2_47 : decode cX7_not2 47 = .ok (.goto 4, 3) := by decide +kernel
theorem dX7_not2_50 : decode cX7_not2 50 = .ok (.iconst 0, 1) := by decide +kernel
theorem dX7_not2_51 : decode cX7_not2 51 = .ok (.ireturn, 1) := by decide +kernel
theorem dX7_not2_52 : decode cX7_not2 52 = .ok (.aload_n 0, 1) := by decide +kernel
theorem dX7_not2_53 : decode cX7_not2 53 = .ok (.invokevirtual 285, 3) := by decide +kernel
theorem dX7_not2_56 : decode cX7_not2 56 = .ok (.istore_n 1, 1) := by decide +kernel
theorem dX7_not2_57 : decode cX7_not2 57 = .ok (.aload_n 0, 1) := by decide +kernel
theorem dX7_not2_58 : decode cX7_not2 58 = .ok (.bipush 60, 2) := by decide +kernel
theorem dX7_not2_60 : decode cX7_not2 60 = .ok (.invokevirtual 210, 3) := by decide +kernel
theorem dX7_not2_63 : decode cX7_not2 63 = .ok (.ifCond .ne 14, 3) := by decide +kernel
theorem dX7_not2_66 : decode cX7_not2 66 = .ok (.aload_n 0, 1) := by decide +kernel
theorem dX7_not2_67 : decode cX7_not2 67 = .ok (.bipush 61, 2) := by decide +kernel
theorem dX7_not2_69 : decode cX7_not2 69 = .ok (.invokevirtual 210, 3) := by decide +kernel
theorem dX7_not2_72 : decode cX7_not2 72 = .ok (.ifCond .ne 5, 3) := by decide +kernel
theorem dX7_not2_75 : decode cX7_not2 75 = .ok (.iload_n 1, 1) := by decide +kernel
theorem dX7_not2_76 : decode cX7_not2 76 = .ok (.ireturn, 1) := by decide +kernel
theorem dX7_not2_77 : decode cX7_not2 77 = .ok (.aload_n 0, 1) := by decide +kernel
theorem dX7_not2_78 : decode cX7_not2 78 = .ok (.getfield 165, 3) := by decide +kernel
theorem dX7_not2_81 : decode cX7_not2 81 = .ok (.ldc2_w 232, 3) := by decide +kernel
theorem dX7_not2_84 : decode cX7_not2 84 = .ok (.lcmp, 1) := by decide +kernel
theorem dX7_not2_85 : decode cX7_not2 85 = .ok (.ifCond .ne 7, 3) := by decide +kernel
theorem dX7_not2_88 : decode cX7_not2 88 = .ok (.iconst 1, 1) := by decide +kernel
theorem dX7_not2_89 : decode cX7_not2 89 = .ok (.goto 4, 3) := by decide +kernel
theorem dX7_not2_92 : decode cX7_not2 92 = .ok (.iconst 0, 1) := by decide +kernel
theorem dX7_not2_93 : decode cX7_not2 93 = .ok (.istore_n 2, 1) := by decide +kernel
theorem dX7_not2_94 : decode cX7_not2 94 = .ok (.aload_n 0, 1) := by decide +kernel
theorem dX7_not2_95 : decode cX7_not2 95 = .ok (.invokevirtual 185, 3) := by decide +kernel
theorem dX7_not2_98 : decode cX7_not2 98 = .ok (.aload_n 0, 1) := by decide +kernel
theorem dX7_not2_99 : decode cX7_not2 99 = .ok (.invokevirtual 285, 3) := by decide +kernel
theorem dX7_not2_102 : decode cX7_not2 102 = .ok (.istore_n 3, 1) := by decide +kernel
theorem dX7_not2_103 : decode cX7_not2 103 = .ok (.iload_n 2, 1) := by decide +kernel
theorem dX7_not2_104 : decode cX7_not2 104 = .ok (.ifCond .eq 11, 3) := by decide +kernel
theorem dX7_not2_107 : decode cX7_not2 107 = .ok (.iload_n 1, 1) := by decide +kernel
theorem dX7_not2_108 : decode cX7_not2 108 = .ok (.iload_n 3, 1) := by decide +kernel
theorem dX7_not2_109 : decode cX7_not2 109 = .ok (.if_icmp .ge 15, 3) := by decide +kernel
theorem dX7_not2_112 : decode cX7_not2 112 = .ok (.goto 8, 3) := by decide +kernel
theorem dX7_not2_115 : decode cX7_not2 115 = .ok (.iload_n 1, 1) := by decide +kernel
theorem dX7_not2_116 : decode cX7_not2 116 = .ok (.iload_n 3, 1) := by decide +kernel
theorem dX7_not2_117 : decode cX7_not2 117 = .ok (.if_icmp .ne 7, 3) := by decide +kernel
theorem dX7_not2_120 : decode cX7_not2 120 = .ok (.iconst 1, 1) := by decide +kernel
theorem dX7_not2_121 : decode cX7_not2 121 = .ok (.goto 4, 3) := by decide +kernel
theorem dX7_not2_124 : decode cX7_not2 124 = .ok (.iconst 0, 1) := by decide +kernel
theorem dX7_not2_125 : decode cX7_not2 125 = .ok (.ireturn, 1) := by decide +kernel
theorem dX7_both2_0 : decode cX7_both2 0 = .ok (.aload_n 0, 1) := by decide +kernel
theorem dX7_both2_1 : decode cX7_both2 1 = .ok (.invokevirtual 288, 3) := by decide +kernel
theorem dX7_both2_4 : decode cX7_both2 4 = .ok (.istore_n 1, 1) := by decide +kernel
theorem dX7_both2_5 : decode cX7_both2 5 = .ok (.aload_n 0, 1) := by decide +kernel
theorem dX7_both2_6 : decode cX7_both2 6 = .ok (.bipush 97, 2) := by decide +kernel
theorem dX7_both2_8 : decode cX7_both2 8 = .ok (.bipush 110, 2) := by decide +kernel
theorem dX7_both2_10 : decode cX7_both2 10 = .ok (.bipush 100, 2) := by decide +kernel
theorem dX7_both2_12 : decode cX7_both2 12 = .ok (.iconst 0, 1) := by decide +kernel
theorem dX7_both2_13 : decode cX7_both2 13 = .ok (.iconst 0, 1) := by decide +kernel
theorem dX7_both2_14 : decode cX7_both2 14 = .ok (.iconst 0, 1) := by decide +kernel
theorem dX7_both2_15 : decode cX7_both2 15 = .ok (.iconst 0, 1) := by decide +kernel
theorem dX7_both2_16 : decode cX7_both2 16 = .ok (.iconst 0, 1) := by decide +kernel
theorem dX7_both2_17 : decode cX7_both2 17 = .ok (.invokevirtual 188, 3) := by decide +kernel
theorem dX7_both2_20 : decode cX7_both2 20 = .ok (.ifCond .eq 29, 3) := by decide +kernel
theorem dX7_both2_23 : decode cX7_both2 23 = .ok (.aload_n 0, 1) := by decide +kernel
theorem dX7_both2_24 : decode cX7_both2 24 = .ok (.invokevirtual 185, 3) := by decide +kernel
theorem dX7_both2_27 : decode cX7_both2 27 = .ok (.aload_n 0, 1) := by decide +kernel
theorem dX7_both2_28 : decode cX7_both2 28 = .ok (.invokevirtual 288, 3) := by decide +kernel
theorem dX7_both2_31 : decode cX7_both2 31 = .ok (.istore_n 2, 1) := by decide +kernel
theorem dX7_both2_32 : decode cX7_both2 32 = .ok (.iload_n 1, 1) := by decide +kernel
theorem dX7_both2_33 : decode cX7_both2 33 = .ok (.ifCond .eq 11, 3) := by decide +kernel
theorem dX7_both2_36 : decode cX7_both2 36 = .ok (.iload_n 2, 1) := by decide +kernel
theorem dX7_both2_37 : decode cX7_both2 37 = .ok (.ifCond .eq 7, 3) := by decide +kernel
theorem dX7_both2_40 : decode cX7_both2 40 = .ok (.iconst 1, 1) := by decide +kernel
theorem dX7_both2_41 : decode cX7_both2 41 = .ok (.goto 4, 3) := by decide +kernel
theorem dX7_both2_44 : decode cX7_both2 44 = .ok (.iconst 0, 1) := by decide +kernel
theorem dX7_both2_45 : decode cX7_both2 45 = .ok (.istore_n 1, 1) := by decide +kernel
theorem dX7_both2_46 : decode cX7_both2 46 = .ok (.goto (-41), 3) := by decide +kernel
theorem dX7_both2_49 : decode cX7_both2 49 = .ok (.iload_n 1, 1) := by decide +kernel
theorem dX7_both2_50 : decode cX7_both2 50 = .ok (.ireturn, 1) := by decide +kernel
theorem dX7_either2_0 : decode cX7_either2 0 = .ok (.aload_n 0, 1) := by decide +kernel
theorem dX7_either2_1 : decode cX7_either2 1 = .ok (.invokevirtual 291, 3) := by decide +kernel
theorem dX7_either2_4 : decode cX7_either2 4 = .ok (.istore_n 1, 1) := by decide +kernel
theorem dX7_either2_5 : decode cX7_either2 5 = .ok (.aload_n 0, 1) := by decide +kernel
theorem dX7_either2_6 : decode cX7_either2 6 = .ok (.bipush 111, 2) := by decide +kernel
theorem dX7_either2_8 : decode cX7_either2 8 = .ok (.bipush 114, 2) := by decide +kernel
theorem dX7_either2_10 : decode cX7_either2 10 = .ok (.iconst 0, 1) := by decide +kernel
theorem dX7_either2_11 : decode cX7_either2 11 = .ok (.iconst 0, 1) := by decide +kernel
theorem dX7_either2_12 : decode cX7_either2 12 = .ok (.iconst 0, 1) := by decide +kernel
theorem dX7_either2_13 : decode cX7_either2 13 = .ok (.iconst 0, 1) := by decide +kernel
theorem dX7_either2_14 : decode cX7_either2 14 = .ok (.iconst 0, 1) := by decide +kernel
theorem dX7_either2_15 : decode cX7_either2 15 = .ok (.iconst 0, 1) := by decide +kernel
theorem dX7_either2_16 : decode cX7_either2 16 = .ok (.invokevirtual 188, 3) := by decide +kernel
theorem dX7_either2_19 : decode cX7_either2 19 = .ok (.ifCond .eq 29, 3) := by decide +kernel
theorem dX7_either2_22 : decode cX7_either2 22 = .ok (.aload_n 0, 1) := by decide +kernel
theorem dX7_either2_23 : decode cX7_either2 23 = .ok (.invokevirtual 185, 3) := by decide +kernel
theorem dX7_either2_26 : decode cX7_either2 26 = .ok (.aload_n 0, 1) := by decide +kernel
theorem dX7_either2_27 : decode cX7_either2 27 = .ok (.invokevirtual 291, 3) := by decide +kernel
theorem dX7_either2_30 : decode cX7_either2 30 = .ok (.istore_n 2, 1) := by decide +kernel
theorem dX7_either2_31 : decode cX7_either2 31 = .ok (.iload_n 1, 1) := by decide +kernel
theorem dX7_either2_32 : decode cX7_either2 32 = .ok (.ifCond .ne 7, 3) := by decide +kernel
theorem dX7_either2_35 : decode cX7_either2 35 = .ok (.iload_n 2, 1) := by decide +kernel
theorem dX7_either2_36 : decode cX7_either2 36 = .ok (.ifCond .eq 7, 3) := by decide +kernel
theorem dX7_either2_39 : decode cX7_either2 39 = .ok (.iconst 1, 1) := by decide +kernel
theorem dX7_either2_40 : decode cX7_either2 40 = .ok (.goto 4, 3) := by decide +kernel
theorem dX7_either2_43 : decode cX7_either2 43 = .ok (.iconst 0, 1) := by decide +kernel
theorem dX7_either2_44 : decode cX7_either2 44 = .ok (.istore_n 1, 1) := by decide +kernel
theorem dX7_either2_45 : decode cX7_either2 45 = .ok (.goto (-40), 3) := by decide +kernel
theorem dX7_either2_48 : decode cX7_either2 48 = .ok (.iload_n 1, 1) := by decide +kernel
theorem dX7_either2_49 : decode cX7_either2 49 = .ok (.ireturn, 1) := by decide +kernel
theorem dX7_atom1_0 : decode cX7_atom1 0 = .ok (.iconst 0, 1) := by decide +kernel
theorem dX7_atom1_1 : decode cX7_atom1 1 = .ok (.istore_n 1, 1) := by decide +kernel
theorem dX7_atom1_2 : decode cX7_atom1 2 = .ok (.aload_n 0, 1) := by decide +kernel
theorem dX7_atom1_3 : decode cX7_atom1 3 = .ok (.bipush 45, 2) := by decide +kernel
theorem dX7_atom1_5 : decode cX7_atom1 5 = .ok (.invokevirtual 210, 3) := by decide +kernel
theorem dX7_atom1_8 : decode cX7_atom1 8 = .ok (.ifCond .eq 29, 3) := by decide +kernel
theorem dX7_atom1_11 : decode cX7_atom1 11 = .ok (.aload_n 0, 1) := by decide +kernel
theorem dX7_atom1_12 : decode cX7_atom1 12 = .ok (.invokevirtual 213, 3) := by decide +kernel
theorem dX7_atom1_15 : decode cX7_atom1 15 = .ok (.ifCond .eq 146, 3) := by decide +kernel
theorem dX7_atom1_18 : decode cX7_atom1 18 = .ok (.aload_n 0, 1) := by decide +kernel
theorem dX7_atom1_19 : decode cX7_atom1 19 = .ok (.invokevirtual 279, 3) := by decide +kernel
theorem dX7_atom1_22 : decode cX7_atom1 22 = .ok (.ineg, 1) := by decide +kernel
theorem dX7_atom1_23 : decode cX7_atom1 23 = .ok (.istore_n 1, 1) := by decide +kernel
theorem dX7_atom1_24 : decode cX7_atom1 24 = .ok (.aload_n 0, 1) := by decide +kernel
theorem dX7_atom1_25 : decode cX7_atom1 25 = .ok (.dup, 1) := by decide +kernel
theorem dX7_atom1_26 : decode cX7_atom1 26 = .ok (.getfield 179, 3) := by decide +kernel
theorem dX7_atom1_29 : decode cX7_atom1 29 = .ok (.iconst 1, 1) := by decide +kernel
theorem dX7_atom1_30 : decode cX7_atom1 30 = .ok (.isub, 1) := by decide +kernel
theorem dX7_atom1_31 : decode cX7_atom1 31 = .ok (.putfield 179, 3) := by decide +kernel
theorem dX7_atom1_34 : decode cX7_atom1 34 = .ok (.goto 127, 3) := by decide +kernel
theorem dX7_atom1_37 : decode cX7_atom1 37 = .ok (.aload_n 0, 1) := by decide +kernel
theorem dX7_atom1_38 : decode cX7_atom1 38 = .ok (.bipush 40, 2) := by decide +kernel
theorem dX7_atom1_40 : decode cX7_atom1 40 = .ok (.invokevirtual 210, 3) := by decide +kernel
theorem dX7_atom1_43 : decode cX7_atom1 43 = .ok (.ifCond .eq 52, 3) := by decide +kernel
theorem dX7_atom1_46 : decode cX7_atom1 46 = .ok (.aload_n 0, 1) := by decide +kernel
theorem dX7_atom1_47 : decode cX7_atom1 47 = .ok (.invokevirtual 213, 3) := by decide +kernel
theorem dX7_atom1_50 : decode cX7_atom1 50 = .ok (.ifCond .eq 111, 3) := by decide +kernel
theorem dX7_atom1_53 : decode cX7_atom1 53 = .ok (.aload_n 0, 1) := by decide +kernel
theorem dX7_atom1_54 : decode cX7_atom1 54 = .ok (.invokevirtual 294, 3) := by decide +kernel
theorem dX7_atom1_57 : decode cX7_atom1 57 = .ok (.istore_n 1, 1) := by decide +kernel
theorem dX7_atom1_58 : decode cX7_atom1 58 = .ok (.aload_n 0, 1) := by decide +kernel
theorem dX7_atom1_59 : decode cX7_atom1 59 = .ok (.bipush 41, 2) := by decide +kernel
theorem dX7_atom1_61 : decode cX7_atom1 61 = .ok (.invokevirtual 210, 3) := by decide +kernel
theorem dX7_atom1_64 : decode cX7_atom1 64 = .ok (.ifCond .ne 7, 3) := by decide +kernel
theorem dX7_atom1_67 : decode cX7_atom1 67 = .ok (.aload_n 0, 1) := by decide +kernel
theorem dX7_atom1_68 : decode cX7_atom1 68 = .ok (.invokevirtual 182, 3) := by decide +kernel
theorem dX7_atom1_71 : decode cX7_atom1 71 = .ok (.aload_n 0, 1) := by decide +kernel
theorem dX7_atom1_72 : decode cX7_atom1 72 = .ok (.dup, 1) := by decide +kernel
theorem dX7_atom1_73 : decode cX7_atom1 73 = .ok (.getfield 179, 3) := by decide +kernel
theorem dX7_atom1_76 : decode cX7_atom1 76 = .ok (.iconst 1, 1) := by decide +kernel
theorem dX7_atom1_77 : decode cX7_atom1 77 = .ok (.isub, 1) := by decide +kernel
theorem dX7_atom1_78 : decode cX7_atom1 78 = .ok (.putfield 179, 3) := by decide +kernel
theorem dX7_atom1_81 : decode cX7_atom1 81 = .ok (.aload_n 0, 1) := by decide +kernel
theorem dX7_atom1_82 : decode cX7_atom1 82 = .ok (.getfield 169, 3) := by decide +kernel
theorem dX7_atom1_85 : decode cX7_atom1 85 = .ok (.ifCond .ne 76, 3) := by decide +kernel
theorem dX7_atom1_88 : decode cX7_atom1 88 = .ok (.aload_n 0, 1) := by decide +kernel
theorem dX7_atom1_89 : decode cX7_atom1 89 = .ok (.invokevirtual 185, 3) := by decide +kernel
theorem dX7_atom1_92 : decode cX7_atom1 92 = .ok (.goto 69, 3) := by decide +kernel
theorem dX7_atom1_95 : decode cX7_atom1 95 = .ok (.aload_n 0, 1) := by decide +kernel
theorem dX7_atom1_96 : decode cX7_atom1 96 = .ok (.getfield 169, 3) := by decide +kernel
theorem dX7_atom1_99 : decode cX7_atom1 99 = .ok (.ifCond .ne 24, 3) := by decide +kernel
theorem dX7_atom1_102 : decode cX7_atom1 102 = .ok (.aload_n 0, 1) := by decide +kernel
theorem dX7_atom1_103 : decode cX7_atom1 103 = .ok (.getfield 154, 3) := by decide +kernel
theorem dX7_atom1_106 : decode cX7_atom1 106 = .ok (.iconst 2, 1) := by decide +kernel
theorem dX7_atom1_107 : decode cX7_atom1 107 = .ok (.if_icmp .ne 16, 3) := by decide +kernel
theorem dX7_atom1_110 : decode cX7_atom1 110 = .ok (.aload_n 0, 1) := by decide +kernel
theorem dX7_atom1_111 : decode cX7_atom1 111 = .ok (.getfield 165, 3) := by decide +kernel
theorem dX7_atom1_114 : decode cX7_atom1 114 = .ok (.l2i, 1) := by decide +kernel
theorem dX7_atom1_115 : decode cX7_atom1 115 = .ok (.istore_n 1, 1) := by decide +kernel
theorem dX7_atom1_116 : decode cX7_atom1 116 = .ok (.aload_n 0, 1) := by decide +kernel
theorem dX7_atom1_117 : decode cX7_atom1 117 = .ok (.invokevirtual 185, 3) := by decide +kernel
theorem dX7_atom1_120 : decode cX7_atom1 120 = .ok (.goto 41, 3) := by decide +kernel
theorem dX7_atom1_123 : decode cX7_atom1 123 = .ok (.aload_n 0, 1) := by decide +kernel
theorem dX7_atom1_124 : decode cX7_atom1 124 = .ok (.getfield 169, 3) := by decide +kernel
theorem dX7_atom1_127 : decode cX7_atom1 127 = .ok (.ifCond .ne 30, 3) := by decide +kernel
theorem dX7_atom1_130 : decode cX7_atom1 130 = .ok (.aload_n 0, 1) := by decide +kernel
theorem dX7_atom1_131 : decode cX7_atom1 131 = .ok (.getfield 154, 3) := by decide +kernel
theorem dX7_atom1_134 : decode cX7_atom1 134 = .ok (.iconst 1, 1) := by decide +kernel
theorem dX7_atom1_135 : decode cX7_atom1 135 = .ok (.if_icmp .ne 22, 3) := by decide +kernel
theorem dX7_atom1_138 : decode cX7_atom1 138 = .ok (.aload_n 0, 1) := by decide +kernel
theorem dX7_atom1_139 : decode cX7_atom1 139 = .ok (.invokevirtual 217, 3) := by decide +kernel
theorem dX7_atom1_142 : decode cX7_atom1 142 = .ok (.istore_n 1, 1) := by decide +kernel
theorem dX7_atom1_143 : decode cX7_atom1 143 = .ok (.aload_n 0, 1) := by decide +kernel
theorem dX7_atom1_144 : decode cX7_atom1 144 = .ok (.getfield 169, 3) := by decide +kernel
theorem dX7_atom1_147 : decode cX7_atom1 147 = .ok (.ifCond .ne 14, 3) := by decide +kernel
theorem dX7_atom1_150 : decode cX7_atom1 150 = .ok (.aload_n 0, 1) := by decide +kernel
theorem dX7_atom1_151 : decode cX7_atom1 151 = .ok (.invokevirtual 185, 3) := by decide +kernel
theorem dX7_atom1_154 : decode cX7_atom1 154 = .ok (.goto 7, 3) := by decide +kernel
theorem dX7_atom1_157 : decode cX7_atom1 157 = .ok (.aload_n 0, 1) := by decide +kernel
theorem dX7_atom1_158 : decode cX7_atom1 158 = .ok (.invokevirtual 182, 3) := by decide +kernel
theorem dX7_atom1_161 : decode cX7_atom1 161 = .ok (.iload_n 1, 1) := by decide +kernel
theorem dX7_atom1_162 : decode cX7_atom1 162 = .ok (.ireturn, 1) := by decide +kernel
theorem dX7_term1_0 : decode cX7_term1 0 = .ok (.aload_n 0, 1) := by decide +kernel
theorem dX7_term1_1 : decode cX7_term1 1 = .ok (.invokevirtual 297, 3) := by decide +kernel
theorem dX7_term1_4 : decode cX7_term1 4 = .ok (.istore_n 1, 1) := by decide +kernel
theorem dX7_term1_5 : decode cX7_term1 5 = .ok (.aload_n 0, 1) := by decide +kernel
theorem dX7_term1_6 : decode cX7_term1 6 = .ok (.bipush 42, 2) := by decide +kernel
theorem dX7_term1_8 : decode cX7_term1 8 = .ok (.invokevirtual 210, 3) := by decide +kernel
theorem dX7_term1_11 : decode cX7_term1 11 = .ok (.ifCond .eq 17, 3) := by decide +kernel
theorem dX7_term1_14 : decode cX7_term1 14 = .ok (.aload_n 0, 1) := by decide +kernel
theorem dX7_term1_15 : decode cX7_term1 15 = .ok (.invokevirtual 185, 3) := by decide +kernel
theorem dX7_term1_18 : decode cX7_term1 18 = .ok (.iload_n 1, 1) := by decide +kernel
theorem dX7_term1_19 : decode cX7_term1 19 = .ok (.aload_n 0, 1) := by decide +kernel
theorem dX7_term1_20 : decode cX7_term1 20 = .ok (.invokevirtual 297, 3) := by decide +kernel
theorem dX7_term1_23 : decode cX7_term1 23 = .ok (.imul, 1) := by decide +kernel
theorem dX7_term1_24 : decode cX7_term1 24 = .ok (.istore_n 1, 1) := by decide +kernel
theorem dX7_term1_25 : decode cX7_term1 25 = .ok (.goto (-20), 3) := by decide +kernel
theorem dX7_term1_28 : decode cX7_term1 28 = .ok (.iload_n 1, 1) := by decide +kernel
theorem dX7_term1_29 : decode cX7_term1 29 = .ok (.ireturn, 1) := by decide +kernel
theorem dX7_added1_0 : decode cX7_added1 0 = .ok (.aload_n 0, 1) := by decide +kernel
theorem dX7_added1_1 : decode cX7_added1 1 = .ok (.invokevirtual 300, 3) := by decide +kernel
theorem dX7_added1_4 : decode cX7_added1 4 = .ok (.istore_n 1, 1) := by decide +kernel
theorem dX7_added1_5 : decode cX7_added1 5 = .ok (.aload_n 0, 1) := by decide +kernel
theorem dX7_added1_6 : decode cX7_added1 6 = .ok (.bipush 43, 2) := by decide +kernel
theorem dX7_added1_8 : decode cX7_added1 8 = .ok (.invokevirtual 210, 3) := by decide +kernel
theorem dX7_added1_11 : decode cX7_added1 11 = .ok (.ifCond .ne 12, 3) := by decide +kernel
theorem dX7_added1_14 : decode cX7_added1 14 = .ok (.aload_n 0, 1) := by decide +kernel
theorem dX7_added1_15 : decode cX7_added1 15 = .ok (.bipush 45, 2) := by decide +kernel
theorem dX7_added1_17 : decode cX7_added1 17 = .ok (.invokevirtual 210, 3) := by decide +kernel
theorem dX7_added1_20 : decode cX7_added1 20 = .ok (.ifCond .eq 46, 3) := by decide +kernel
theorem dX7_added1_23 : decode cX7_added1 23 = .ok (.aload_n 0, 1) := by decide +kernel
theorem dX7_added1_24 : decode cX7_added1 24 = .ok (.getfield 165, 3) := by decide +kernel
theorem dX7_added1_27 : decode cX7_added1 27 = .ok (.ldc2_w 227, 3) := by decide +kernel
theorem dX7_added1_30 : decode cX7_added1 30 = .ok (.lcmp, 1) := by decide +kernel
theorem dX7_added1_31 : decode cX7_added1 31 = .ok (.ifCond .ne 7, 3) := by decide +kernel
theorem dX7_added1_34 : decode cX7_added1 34 = .ok (.iconst 1, 1) := by decide +kernel
theorem dX7_added1_35 : decode cX7_added1 35 = .ok (.goto 4, 3) := by decide +kernel
theorem dX7_added1_38 : decode cX7_added1 38 = .ok (.iconst 0, 1) := by decide +kernel
theorem dX7_added1_39 : decode cX7_added1 39 = .ok (.istore_n 2, 1) := by decide +kernel
theorem dX7_added1_40 : decode cX7_added1 40 = .ok (.aload_n 0, 1) := by decide +kernel
theorem dX7_added1_41 : decode cX7_added1 41 = .ok (.invokevirtual 185, 3) := by decide +kernel
theorem dX7_added1_44 : decode cX7_added1 44 = .ok (.aload_n 0, 1) := by decide +kernel
theorem dX7_added1_45 : decode cX7_added1 45 = .ok (.invokevirtual 300, 3) := by decide +kernel
theorem dX7_added1_48 : decode cX7_added1 48 = .ok (.istore_n 3, 1) := by decide +kernel
theorem dX7_added1_49 : decode cX7_added1 49 = .ok (.iload_n 2, 1) := by decide +kernel
theorem dX7_added1_50 : decode cX7_added1 50 = .ok (.ifCond .eq 9, 3) := by decide +kernel
theorem dX7_added1_53 : decode cX7_added1 53 = .ok (.iload_n 1, 1) := by decide +kernel
theorem dX7_added1_54 : decode cX7_added1 54 = .ok (.iload_n 3, 1) := by decide +kernel
theorem dX7_added1_55 : decode cX7_added1 55 = .ok (.iadd, 1) := by decide +kernel
theorem dX7_added1_56 : decode cX7_added1 56 = .ok (.goto 6, 3) := by decide +kernel
theorem dX7_added1_59 : decode cX7_added1 59 = .ok (.iload_n 1, 1) := by decide +kernel
theorem dX7_added1_60 : decode cX7_added1 60 = .ok (.iload_n 3, 1) := by decide +kernel
theorem dX7_added1_61 : decode cX7_added1 61 = .ok (.isub, 1) := by decide +kernel
theorem dX7_added1_62 : decode cX7_added1 62 = .ok (.istore_n 1, 1) := by decide +kernel
theorem dX7_added1_63 : decode cX7_added1 63 = .ok (.goto (-58), 3) := by decide +kernel
theorem dX7_added1_66 : decode cX7_added1 66 = .ok (.iload_n 1, 1) := by decide +kernel
theorem dX7_added1_67 : decode cX7_added1 67 = .ok (.ireturn, 1) := by decide +kernel
theorem dX7_not1_0 : decode cX7_not1 0 = .ok (.aload_n 0, 1) := by decide +kernel
theorem dX7_not1_1 : decode cX7_not1 1 = .ok (.bipush 110, 2) := by decide +kernel
theorem dX7_not1_3 : decode cX7_not1 3 = .ok (.bipush 111, 2) := by decide +kernel
theorem dX7_not1_5 : decode cX7_not1 5 = .ok (.bipush 116, 2) := by decide +kernel
theorem dX7_not1_7 : decode cX7_not1 7 = .ok (.iconst 0, 1) := by decide +kernel
theorem dX7_not1_8 : decode cX7_not1 8 = .ok (.iconst 0, 1) := by decide +kernel
theorem dX7_not1_9 : decode cX7_not1 9 = .ok (.iconst 0, 1) := by decide +kernel
theorem dX7_not1_10 : decode cX7_not1 10 = .ok (.iconst 0, 1) := by decide +kernel
theorem dX7_not1_11 : decode cX7_not1 11 = .ok (.iconst 0, 1) := by decide +kernel
theorem dX7_not1_12 : decode cX7_not1 12 = .ok (.invokevirtual 188, 3) := by decide +kernel
theorem dX7_not1_15 : decode cX7_not1 15 = .ok (.ifCond .eq 37, 3) := by decide +kernel
theorem dX7_not1_18 : decode cX7_not1 18 = .ok (.aload_n 0, 1) := by decide +kernel
theorem dX7_not1_19 : decode cX7_not1 19 = .ok (.invokevirtual 213, 3) := by decide +kernel
theorem dX7_not1_22 : decode cX7_not1 22 = .ok (.ifCond .ne 5, 3) := by decide +kernel
theorem dX7_not1_25 : decode cX7_not1 25 = .ok (.iconst 0, 1) := by decide +kernel
theorem dX7_not1_26 : decode cX7_not1 26 = .ok (.ireturn, 1) := by decide +kernel
theorem dX7_not1_27 : decode cX7_not1 27 = .ok (.aload_n 0, 1) := by decide +kernel
theorem dX7_not1_28 : decode cX7_not1 28 = .ok (.invokevirtual 288, 3) := by decide +kernel
theorem dX7_not1_31 : decode cX7_not1 31 = .ok (.istore_n 1, 1) := by decide +kernel
theorem dX7_not1_32 : decode cX7_not1 32 = .ok (.aload_n 0, 1) := by decide +kernel
theorem dX7_not1_33 : decode cX7_not1 33 = .ok (.dup, 1) := by decide +kernel
theorem dX7_not1_34 : decode cX7_not1 34 = .ok (.getfield 179, 3) := by decide +kernel
theorem dX7_not1_37 : decode cX7_not1 37 = .ok (.iconst 1, 1) := by decide +kernel
theorem dX7_not1_38 : decode cX7_not1 38 = .ok (.isub, 1) := by decide +kernel
theorem dX7_not1_39 : decode cX7_not1 39 = .ok (.putfield 179, 3) := by decide +kernel
theorem dX7_not1_42 : decode cX7_not1 42 = .ok (.iload_n 1, 1) := by decide +kernel
theorem dX7_not1_43 : decode cX7_not1 43 = .ok (.ifCond .ne 7, 3) := by decide +kernel
theorem dX7_not1_46 : decode cX7_not1 46 = .ok (.iconst 1, 1) := by decide +kernel
theorem dX7_not1_47 : decode cX7_not1 47 = .ok (.goto 4, 3) := by decide +kernel
theorem dX7_not1_50 : decode cX7_not1 50 = .ok (.iconst 0, 1) := by decide +kernel
theorem dX7_not1_51 : decode cX7_not1 51 = .ok (.ireturn, 1) := by decide +kernel
theorem dX7_not1_52 : decode cX7_not1 52 = .ok (.aload_n 0, 1) := by decide +kernel
theorem dX7_not1_53 : decode cX7_not1 53 = .ok (.invokevirtual 303, 3) := by decide +kernel
theorem dX7_not1_56 : decode cX7_not1 56 = .ok (.istore_n 1, 1) := by decide +kernel
theorem dX7_not1_57 : decode cX7_not1 57 = .ok (.aload_n 0, 1) := by decide +kernel
theorem dX7_not1_58 : decode cX7_not1 58 = .ok (.bipush 60, 2) := by decide +kernel
theorem dX7_not1_60 : decode cX7_not1 60 = .ok (.invokevirtual 210, 3) := by decide +kernel
theorem dX7_not1_63 : decode cX7_not1 63 = .ok (.ifCond .ne 14, 3) := by decide +kernel
theorem dX7_not1_66 : decode cX7_not1 66 = .ok (.aload_n 0, 1) := by decide +kernel
theorem dX7_not1_67 : decode cX7_not1 67 = .ok (.bipush 61, 2) := by decide +kernel
theorem dX7_not1_69 : decode cX7_not1 69 = .ok (.invokevirtual 210, 3) := by decide +kernel
theorem dX7_not1_72 : decode cX7_not1 72 = .ok (.ifCond .ne 5, 3) := by decide +kernel
theorem dX7_not1_75 : decode cX7_not1 75 = .ok (.iload_n 1, 1) := by decide +kernel
theorem dX7_not1_76 : decode cX7_not1 76 = .ok (.ireturn, 1) := by decide +kernel
theorem dX7_not1_77 : decode cX7_not1 77 = .ok (.aload_n 0, 1) := by decide +kernel
theorem dX7_not1_78 : decode cX7_not1 78 = .ok (.getfield 165, 3) := by decide +kernel
theorem dX7_not1_81 : decode cX7_not1 81 = .ok (.ldc2_w 232, 3) := by decide +kernel
theorem dX7_not1_84 : decode cX7_not1 84 = .ok (.lcmp, 1) := by decide +kernel
theorem dX7_not1_85 : decode cX7_not1 85 = .ok (.ifCond .ne 7, 3) := by decide +kernel
theorem dX7_not1_88 : decode cX7_not1 88 = .ok (.iconst 1, 1) := by decide +kernel
theorem dX7_not1_89 : decode cX7_not1 89 = .ok (.goto 4, 3) := by decide +kernel
theorem dX7_not1_92 : decode cX7_not1 92 = .ok (.iconst 0, 1) := by decide +kernel
theorem dX7_not1_93 : decode cX7_not1 93 = .ok (.istore_n 2, 1) := by decide +kernel
theorem dX7_not1_94 : decode cX7_not1 94 = .ok (.aload_n 0, 1) := by decide +kernel
theorem dX7_not1_95 : decode cX7_not1 95 = .ok (.invokevirtual 185, 3) := by decide +kernel
theorem dX7_not1_98 : decode cX7_not1 98 = .ok (.aload_n 0, 1) := by decide +kernel
theorem dX7_not1_99 : decode cX7_not1 99 = .ok (.invokevirtual 303, 3) := by decide +kernel
theorem dX7_not1_102 : decode cX7_not1 102 = .ok (.istore_n 3, 1) := by decide +kernel
theorem dX7_not1_103 : decode cX7_not1 103 = .ok (.iload_n 2, 1) := by decide +kernel
theorem dX7_not1_104 : decode cX7_not1 104 = .ok (.ifCond .eq 11, 3) := by decide +kernel
theorem dX7_not1_107 : decode cX7_not1 107 = .ok (.iload_n 1, 1) := by decide +kernel
theorem dX7_not1_108 : decode cX7_not1 108 = .ok (.iload_n 3, 1) := by decide +kernel
theorem dX7_not1_109 : decode cX7_not1 109 = .ok (.if_icmp .ge 15, 3) := by decide +kernel
theorem dX7_not1_112 : decode cX7_not1 112 = .ok (.goto 8, 3) := by decide +kernel
theorem dX7_not1_115 : decode cX7_not1 115 = .ok (.iload_n 1, 1) := by decide +kernel
theorem dX7_not1_116 : decode cX7_not1 116 = .ok (.iload_n 3, 1) := by decide +kernel
theorem dX7_not1_117 : decode cX7_not1 117 = .ok (.if_icmp .ne 7, 3) := by decide +kernel
theorem dX7_not1_120 : decode cX7_not1 120 = .ok (.iconst 1, 1) := by decide +kernel
theorem dX7_not1_121 : decode cX7_not1 121 = .ok (.goto 4, 3) := by decide +kernel
theorem dX7_not1_124 : decode cX7_not1 124 = .ok (.iconst 0, 1) := by decide +kernel
theorem dX7_not1_125 : decode cX7_not1 125 = .ok (.ireturn, 1) := by decide +kernel
theorem dX7_both1_0 : decode cX7_both1 0 = .ok (.aload_n 0, 1) := by decide +kernel
theorem dX7_both1_1 : decode cX7_both1 1 = .ok (.invokevirtual 306, 3) := by decide +kernel
theorem dX7_both1_4 : decode cX7_both1 4 = .ok (.istore_n 1, 1) := by decide +kernel
theorem dX7_both1_5 : decode cX7_both1 5 = .ok (.aload_n 0, 1) := by decide +kernel
theorem dX7_both1_6 : decode cX7_both1 6 = .ok (.bipush 97, 2) := by decide +kernel
theorem dX7_both1_8 : decode cX7_both1 8 = .ok (.bipush 110, 2) := by decide +kernel
theorem dX7_both1_10 : decode cX7_both1 10 = .ok (.bipush 100, 2) := by decide +kernel
theorem dX7_both1_12 : decode cX7_both1 12 = .ok (.iconst 0, 1) := by decide +kernel
theorem dX7_both1_13 : decode cX7_both1 13 = .ok (.iconst 0, 1) := by decide +kernel
theorem dX7_both1_14 : decode cX7_both1 14 = .ok (.iconst 0, 1) := by decide +kernel
theorem dX7_both1_15 : decode cX7_both1 15 = .ok (.iconst 0, 1) := by decide +kernel
theorem dX7_both1_16 : decode cX7_both1 16 = .ok (.iconst 0, 1) := by decide +kernel
theorem dX7_both1_17 : decode cX7_both1 17 = .ok (.invokevirtual 188, 3) := by decide +kernel
theorem dX7_both1_20 : decode cX7_both1 20 = .ok (.ifCond .eq 29, 3) := by decide +kernel
theorem dX7_both1_23 : decode cX7_both1 23 = .ok (.aload_n 0, 1) := by decide +kernel
theorem dX7_both1_24 : decode cX7_both1 24 = .ok (.invokevirtual 185, 3) := by decide +kernel
theorem dX7_both1_27 : decode cX7_both1 27 = .ok (.aload_n 0, 1) := by decide +kernel
theorem dX7_both1_28 : decode cX7_both1 28 = .ok (.invokevirtual 306, 3) := by decide +kernel
theorem dX7_both1_31 : decode cX7_both1 31 = .ok (.istore_n 2, 1) := by decide +kernel
theorem dX7_both1_32 : decode cX7_both1 32 = .ok (.iload_n 1, 1) := by decide +kernel
theorem dX7_both1_33 : decode cX7_both1 33 = .ok (.ifCond .eq 11, 3) := by decide +kernel
theorem dX7_both1_36 : decode cX7_both1 36 = .ok (.iload_n 2, 1) := by decide +kernel
theorem dX7_both1_37 : decode cX7_both1 37 = .ok (.ifCond .eq 7, 3) := by decide +kernel
theorem dX7_both1_40 : decode cX7_both1 40 = .ok (.iconst 1, 1) := by decide +kernel
theorem dX7_both1_41 : decode cX7_both1 41 = .ok (.goto 4, 3) := by decide +kernel
theorem dX7_both1_44 : decode cX7_both1 44 = .ok (.iconst 0, 1) := by decide +kernel
theorem dX7_both1_45 : decode cX7_both1 45 = .ok (.istore_n 1, 1) := by decide +kernel
theorem dX7_both1_46 : decode cX7_both1 46 = .ok (.goto (-41), 3) := by decide +kernel
theorem dX7_both1_49 : decode cX7_both1 49 = .ok (.iload_n 1, 1) := by decide +kernel
theorem dX7_both1_50 : decode cX7_both1 50 = .ok (.ireturn, 1) := by decide +kernel
theorem dX7_either1_0 : decode cX7_either1 0 = .ok (.aload_n 0, 1) := by decide +kernel
theorem dX7_either1_1 : decode cX7_either1 1 = .ok (.invokevirtual 309, 3) := by decide +kernel
theorem dX7_either1_4 : decode cX7_either1 4 = .ok (.istore_n 1, 1) := by decide +kernel
theorem dX7_either1_5 : decode cX7_either1 5 = .ok (.aload_n 0, 1) := by decide +kernel
theorem dX7_either1_6 : decode cX7_either1 6 = .ok (.bipush 111, 2) := by decide +kernel
theorem dX7_either1_8 : decode cX7_either1 8 = .ok (.bipush 114, 2) := by decide +kernel
theorem dX7_either1_10 : decode cX7_either1 10 = .ok (.iconst 0, 1) := by decide +kernel
theorem dX7_either1_11 : decode cX7_either1 11 = .ok (.iconst 0, 1) := by decide +kernel
theorem dX7_either1_12 : decode cX7_either1 12 = .ok (.iconst 0, 1) := by decide +kernel
theorem dX7_either1_13 : decode cX7_either1 13 = .ok (.iconst 0, 1) := by decide +kernel
theorem dX7_either1_14 : decode cX7_either1 14 = .ok (.iconst 0, 1) := by decide +kernel
theorem dX7_either1_15 : decode cX7_either1 15 = .ok (.iconst 0, 1) := by decide +kernel
theorem dX7_either1_16 : decode cX7_either1 16 = .ok (.invokevirtual 188, 3) := by decide +kernel
theorem dX7_either1_19 : decode cX7_either1 19 = .ok (.ifCond .eq 29, 3) := by decide +kernel
theorem dX7_either1_22 : decode cX7_either1 22 = .ok (.aload_n 0, 1) := by decide +kernel
theorem dX7_either1_23 : decode cX7_either1 23 = .ok (.invokevirtual 185, 3) := by decide +kernel
theorem dX7_either1_26 : decode cX7_either1 26 = .ok (.aload_n 0, 1) := by decide +kernel
theorem dX7_either1_27 : decode cX7_either1 27 = .ok (.invokevirtual 309, 3) := by decide +kernel
theorem dX7_either1_30 : decode cX7_either1 30 = .ok (.istore_n 2, 1) := by decide +kernel
theorem dX7_either1_31 : decode cX7_either1 31 = .ok (.iload_n 1, 1) := by decide +kernel
theorem dX7_either1_32 : decode cX7_either1 32 = .ok (.ifCond .ne 7, 3) := by decide +kernel
theorem dX7_either1_35 : decode cX7_either1 35 = .ok (.iload_n 2, 1) := by decide +kernel
theorem dX7_either1_36 : decode cX7_either1 36 = .ok (.ifCond .eq 7, 3) := by decide +kernel
theorem dX7_either1_39 : decode cX7_either1 39 = .ok (.iconst 1, 1) := by decide +kernel
theorem dX7_either1_40 : decode cX7_either1 40 = .ok (.goto 4, 3) := by decide +kernel
theorem dX7_either1_43 : decode cX7_either1 43 = .ok (.iconst 0, 1) := by decide +kernel
theorem dX7_either1_44 : decode cX7_either1 44 = .ok (.istore_n 1, 1) := by decide +kernel
theorem dX7_either1_45 : decode cX7_either1 45 = .ok (.goto (-40), 3) := by decide +kernel
theorem dX7_either1_48 : decode cX7_either1 48 = .ok (.iload_n 1, 1) := by decide +kernel
theorem dX7_either1_49 : decode cX7_either1 49 = .ok (.ireturn, 1) := by decide +kernel
theorem dX7_atom0_0 : decode cX7_atom0 0 = .ok (.iconst 0, 1) := by decide +kernel
theorem dX7_atom0_1 : decode cX7_atom0 1 = .ok (.istore_n 1, 1) := by decide +kernel
theorem dX7_atom0_2 : decode cX7_atom0 2 = .ok (.aload_n 0, 1) := by decide +kernel
theorem dX7_atom0_3 : decode cX7_atom0 3 = .ok (.bipush 45, 2) := by decide +kernel
theorem dX7_atom0_5 : decode cX7_atom0 5 = .ok (.invokevirtual 210, 3) := by decide +kernel
theorem dX7_atom0_8 : decode cX7_atom0 8 = .ok (.ifCond .eq 29, 3) := by decide +kernel
theorem dX7_atom0_11 : decode cX7_atom0 11 = .ok (.aload_n 0, 1) := by decide +kernel
theorem dX7_atom0_12 : decode cX7_atom0 12 = .ok (.invokevirtual 213, 3) := by decide +kernel
theorem dX7_atom0_15 : decode cX7_atom0 15 = .ok (.ifCond .eq 146, 3) := by decide +kernel
theorem dX7_atom0_18 : decode cX7_atom0 18 = .ok (.aload_n 0, 1) := by decide +kernel
theorem dX7_atom0_19 : decode cX7_atom0 19 = .ok (.invokevirtual 297, 3) := by decide +kernel
theorem dX7_atom0_22 : decode cX7_atom0 22 = .ok (.ineg, 1) := by decide +kernel
theorem dX7_atom0_23 : decode cX7_atom0 23 = .ok (.istore_n 1, 1) := by decide +kernel
theorem dX7_atom0_24 : decode cX7_atom0 24 = .ok (.aload_n 0, 1) := by decide +kernel
theorem dX7_atom0_25 : decode cX7_atom0 25 = .ok (.dup, 1) := by decide +kernel
theorem dX7_atom0_26 : decode cX7_atom0 26 = .ok (.getfield 179, 3) := by decide +kernel
theorem dX7_atom0_29 : decode cX7_atom0 29 = .ok (.iconst 1, 1) := by decide +kernel
theorem dX7_atom0_30 : decode cX7_atom0 30 = .ok (.isub, 1) := by decide +kernel
theorem dX7_atom0_31 : decode cX7_atom0 31 = .ok (.putfield 179, 3) := by decide +kernel
theorem dX7_atom0_34 : decode cX7_atom0 34 = .ok (.goto 127, 3) := by decide +kernel
theorem dX7_atom0_37 : decode cX7_atom0 37 = .ok (.aload_n 0, 1) := by decide +kernel
theorem dX7_atom0_38 : decode cX7_atom0 38 = .ok (.bipush 40, 2) := by decide +kernel
theorem dX7_atom0_40 : decode cX7_atom0 40 = .ok (.invokevirtual 210, 3) := by decide +kernel
theorem dX7_atom0_43 : decode cX7_atom0 43 = .ok (.ifCond .eq 52, 3) := by decide +kernel
theorem dX7_atom0_46 : decode cX7_atom0 46 = .ok (.aload_n 0, 1) := by decide +kernel
theorem dX7_atom0_47 : decode cX7_atom0 47 = .ok (.invokevirtual 213, 3) := by decide +kernel
theorem dX7_atom0_50 : decode cX7_atom0 50 = .ok (.ifCond .eq 111, 3) := by decide +kernel
theorem dX7_atom0_53 : decode cX7_atom0 53 = .ok (.aload_n 0, 1) := by decide +kernel
theorem dX7_atom0_54 : decode cX7_atom0 54 = .ok (.invokevirtual 312, 3) := by decide +kernel
theorem dX7_atom0_57 : decode cX7_atom0 57 = .ok (.istore_n 1, 1) := by decide +kernel
theorem dX7_atom0_58 : decode cX7_atom0 58 = .ok (.aload_n 0, 1) := by decide +kernel
theorem dX7_atom0_59 : decode cX7_atom0 59 = .ok (.bipush 41, 2) := by decide +kernel
theorem dX7_atom0_61 : decode cX7_atom0 61 = .ok (.invokevirtual 210, 3) := by decide +kernel
theorem dX7_atom0_64 : decode cX7_atom0 64 = .ok (.ifCond .ne 7, 3) := by decide +kernel
theorem dX7_atom0_67 : decode cX7_atom0 67 = .ok (.aload_n 0, 1) := by decide +kernel
theorem dX7_atom0_68 : decode cX7_atom0 68 = .ok (.invokevirtual 182, 3) := by decide +kernel
theorem dX7_atom0_71 : decode cX7_atom0 71 = .ok (.aload_n 0, 1) := by decide +kernel
theorem dX7_atom0_72 : decode cX7_atom0 72 = .ok (.dup, 1) := by decide +kernel
theorem dX7_atom0_73 : decode cX7_atom0 73 = .ok (.getfield 179, 3) := by decide +kernel
theorem dX7_atom0_76 : decode cX7_atom0 76 = .ok (.iconst 1, 1) := by decide +kernel
theorem dX7_atom0_77 : decode cX7_atom0 77 = .ok (.isub, 1) := by decide +kernel
theorem dX7_atom0_78 : decode cX7_atom0 78 = .ok (.putfield 179, 3) := by decide +kernel
theorem dX7_atom0_81 : decode cX7_atom0 81 = .ok (.aload_n 0, 1) := by decide +kernel
theorem dX7_atom0_82 : decode cX7_atom0 82 = .ok (.getfield 169, 3) := by decide +kernel
theorem dX7_atom0_85 : decode cX7_atom0 85 = .ok (.ifCond .ne 76, 3) := by decide +kernel
theorem dX7_atom0_88 : decode cX7_atom0 88 = .ok (.aload_n 0, 1) := by decide +kernel
theorem dX7_atom0_89 : decode cX7_atom0 89 = .ok (.invokevirtual 185, 3) := by decide +kernel
theorem dX7_atom0_92 : decode cX7_atom0 92 = .ok (.goto 69, 3) := by decide +kernel
theorem dX7_atom0_95 : decode cX7_atom0 95 = .ok (.aload_n 0, 1) := by decide +kernel
theorem dX7_atom0_96 : decode cX7_atom0 96 = .ok (.getfield 169, 3) := by decide +kernel
theorem dX7_atom0_99 : decode cX7_atom0 99 = .ok (.ifCond .ne 24, 3) := by decide +kernel
theorem dX7_atom0_102 : decode cX7_atom0 102 = .ok (.aload_n 0, 1) := by decide +kernel
theorem dX7_atom0_103 : decode cX7_atom0 103 = .ok (.getfield 154, 3) := by decide +kernel
theorem dX7_atom0_106 : decode cX7_atom0 106 = .ok (.iconst 2, 1) := by decide +kernel
theorem dX7_atom0_107 : decode cX7_atom0 107 = .ok (.if_icmp .ne 16, 3) := by decide +kernel
theorem dX7_atom0_110 : decode cX7_atom0 110 = .ok (.aload_n 0, 1) := by decide +kernel
theorem dX7_atom0_111 : decode cX7_atom0 111 = .ok (.getfield 165, 3) := by decide +kernel
theorem dX7_atom0_114 : decode cX7_atom0 114 = .ok (.l2i, 1) := by decide +kernel
theorem dX7_atom0_115 : decode cX7_atom0 115 = .ok (.istore_n 1, 1) := by decide +kernel
theorem dX7_atom0_116 : decode cX7_atom0 116 = .ok (.aload_n 0, 1) := by decide +kernel
theorem dX7_atom0_117 : decode cX7_atom0 117 = .ok (.invokevirtual 185, 3) := by decide +kernel
theorem dX7_atom0_120 : decode cX7_atom0 120 = .ok (.goto 41, 3) := by decide +kernel
theorem dX7_atom0_123 : decode cX7_atom0 123 = .ok (.aload_n 0, 1) := by decide +kernel
theorem dX7_atom0_124 : decode cX7_atom0 124 = .ok (.getfield 169, 3) := by decide +kernel
theorem dX7_atom0_127 : decode cX7_atom0 127 = .ok (.ifCond .ne 30, 3) := by decide +kernel
theorem dX7_atom0_130 : decode cX7_atom0 130 = .ok (.aload_n 0, 1) := by decide +kernel
theorem dX7_atom0_131 : decode cX7_atom0 131 = .ok (.getfield 154, 3) := by decide +kernel
theorem dX7_atom0_134 : decode cX7_atom0 134 = .ok (.iconst 1, 1) := by decide +kernel
theorem dX7_atom0_135 : decode cX7_atom0 135 = .ok (.if_icmp .ne 22, 3) := by decide +kernel
theorem dX7_atom0_138 : decode cX7_atom0 138 = .ok (.aload_n 0, 1) := by decide +kernel
theorem dX7_atom0_139 : decode cX7_atom0 139 = .ok (.invokevirtual 217, 3) := by decide +kernel
theorem dX7_atom0_142 : decode cX7_atom0 142 = .ok (.istore_n 1, 1) := by decide +kernel
theorem dX7_atom0_143 : decode cX7_atom0 143 = .ok (.aload_n 0, 1) := by decide +kernel
theorem dX7_atom0_144 : decode cX7_atom0 144 = .ok (.getfield 169, 3) := by decide +kernel
theorem dX7_atom0_147 : decode cX7_atom0 147 = .ok (.ifCond .ne 14, 3) := by decide +kernel
theorem dX7_atom0_150 : decode cX7_atom0 150 = .ok (.aload_n 0, 1) := by decide +kernel
theorem dX7_atom0_151 : decode cX7_atom0 151 = .ok (.invokevirtual 185, 3) := by decide +kernel
theorem dX7_atom0_154 : decode cX7_atom0 154 = .ok (.goto 7, 3) := by decide +kernel
theorem dX7_atom0_157 : decode cX7_atom0 157 = .ok (.aload_n 0, 1) := by decide +kernel
theorem dX7_atom0_158 : decode cX7_atom0 158 = .ok (.invokevirtual 182, 3) := by decide +kernel
theorem dX7_atom0_161 : decode cX7_atom0 161 = .ok (.iload_n 1, 1) := by decide +kernel
theorem dX7_atom0_162 : decode cX7_atom0 162 = .ok (.ireturn, 1) := by decide +kernel
theorem dX7_term0_0 : decode cX7_term0 0 = .ok (.aload_n 0, 1) := by decide +kernel
theorem dX7_term0_1 : decode cX7_term0 1 = .ok (.invokevirtual 315, 3) := by decide +kernel
theorem dX7_term0_4 : decode cX7_term0 4 = .ok (.istore_n 1, 1) := by decide +kernel
theorem dX7_term0_5 : decode cX7_term0 5 = .ok (.aload_n 0, 1) := by decide +kernel
theorem dX7_term0_6 : decode cX7_term0 6 = .ok (.bipush 42, 2) := by decide +kernel
theorem dX7_term0_8 : decode cX7_term0 8 = .ok (.invokevirtual 210, 3) := by decide +kernel
theorem dX7_term0_11 : decode cX7_term0 11 = .ok (.ifCond .eq 17, 3) := by decide +kernel
theorem dX7_term0_14 : decode cX7_term0 14 = .ok (.aload_n 0, 1) := by decide +kernel
theorem dX7_term0_15 : decode cX7_term0 15 = .ok (.invokevirtual 185, 3) := by decide +kernel
theorem dX7_term0_18 : decode cX7_term0 18 = .ok (.iload_n 1, 1) := by decide +kernel
theorem dX7_term0_19 : decode cX7_term0 19 = .ok (.aload_n 0, 1) := by decide +kernel
theorem dX7_term0_20 : decode cX7_term0 20 = .ok (.invokevirtual 315, 3) := by decide +kernel
theorem dX7_term0_23 : decode cX7_term0 23 = .ok (.imul, 1) := by decide +kernel
theorem dX7_term0_24 : decode cX7_term0 24 = .ok (.istore_n 1, 1) := by decide +kernel
theorem dX7_term0_25 : decode cX7_term0 25 = .ok (.goto (-20), 3) := by decide +kernel
theorem dX7_term0_28 : decode cX7_term0 28 = .ok (.iload_n 1, 1) := by decide +kernel
theorem dX7_term0_29 : decode cX7_term0 29 = .ok (.ireturn, 1) := by decide +kernel
theorem dX7_added0_0 : decode cX7_added0 0 = .ok (.aload_n 0, 1) := by decide +kernel
theorem dX7_added0_1 : decode cX7_added0 1 = .ok (.invokevirtual 318, 3) := by decide +kernel
theorem dX7_added0_4 : decode cX7_added0 4 = .ok (.istore_n 1, 1) := by decide +kernel
theorem dX7_added0_5 : decode cX7_added0 5 = .ok (.aload_n 0, 1) := by decide +kernel
theorem dX7_added0_6 : decode cX7_added0 6 = .ok (.bipush 43, 2) := by decide +kernel
theorem dX7_added0_8 : decode cX7_added0 8 = .ok (.invokevirtual 210, 3) := by decide +kernel
theorem dX7_added0_11 : decode cX7_added0 11 = .ok (.ifCond .ne 12, 3) := by decide +kernel
theorem dX7_added0_14 : decode cX7_added0 14 = .ok (.aload_n 0, 1) := by decide +kernel
theorem dX7_added0_15 : decode cX7_added0 15 = .ok (.bipush 45, 2) := by decide +kernel
theorem dX7_added0_17 : decode cX7_added0 17 = .ok (.invokevirtual 210, 3) := by decide +kernel
theorem dX7_added0_20 : decode cX7_added0 20 = .ok (.ifCond .eq 46, 3) := by decide +kernel
theorem dX7_added0_23 : decode cX7_added0 23 = .ok (.aload_n 0, 1) := by decide +kernel
theorem dX7_added0_24 : decode cX7_added0 24 = .ok (.getfield 165, 3) := by decide +kernel
theorem dX7_added0_27 : decode cX7_added0 27 = .ok (.ldc2_w 227, 3) := by decide +kernel
theorem dX7_added0_30 : decode cX7_added0 30 = .ok (.lcmp, 1) := by decide +kernel
theorem dX7_added0_31 : decode cX7_added0 31 = .ok (.ifCond .ne 7, 3) := by decide +kernel
theorem dX7_added0_34 : decode cX7_added0 34 = .ok (.iconst 1, 1) := by decide +kernel
theorem dX7_added0_35 : decode cX7_added0 35 = .ok (.goto 4, 3) := by decide +kernel
theorem dX7_added0_38 : decode cX7_added0 38 = .ok (.iconst 0, 1) := by decide +kernel
theorem dX7_added0_39 : decode cX7_added0 39 = .ok (.istore_n 2, 1) := by decide +kernel
theorem dX7_added0_40 : decode cX7_added0 40 = .ok (.aload_n 0, 1) := by decide +kernel
theorem dX7_added0_41 : decode cX7_added0 41 = .ok (.invokevirtual 185, 3) := by decide +kernel
theorem dX7_added0_44 : decode cX7_added0 44 = .ok (.aload_n 0, 1) := by decide +kernel
theorem dX7_added0_45 : decode cX7_added0 45 = .ok (.invokevirtual 318, 3) := by decide +kernel
theorem dX7_added0_48 : decode cX7_added0 48 = .ok (.istore_n 3, 1) := by decide +kernel
theorem dX7_added0_49 : decode cX7_added0 49 = .ok (.iload_n 2, 1) := by decide +kernel
theorem dX7_added0_50 : decode cX7_added0 50 = .ok (.ifCond .eq 9, 3) := by decide +kernel
theorem dX7_added0_53 : decode cX7_added0 53 = .ok (.iload_n 1, 1) := by decide +kernel
theorem dX7_added0_54 : decode cX7_added0 54 = .ok (.iload_n 3, 1) := by decide +kernel
theorem dX7_added0_55 : decode cX7_added0 55 = .ok (.iadd, 1) := by decide +kernel
theorem dX7_added0_56 : decode cX7_added0 56 = .ok (.goto 6, 3) := by decide +kernel
theorem dX7_added0_59 : decode cX7_added0 59 = .ok (.iload_n 1, 1) := by decide +kernel
theorem dX7_added0_60 : decode cX7_added0 60 = .ok (.iload_n 3, 1) := by decide +kernel
theorem dX7_added0_61 : decode cX7_added0 61 = .ok (.isub, 1) := by decide +kernel
theorem dX7_added0_62 : decode cX7_added0 62 = .ok (.istore_n 1, 1) := by decide +kernel
theorem dX7_added0_63 : decode cX7_added0 63 = .ok (.goto (-58), 3) := by decide +kernel
theorem dX7_added0_66 : decode cX7_added0 66 = .ok (.iload_n 1, 1) := by decide +kernel
theorem dX7_added0_67 : decode cX7_added0 67 = .ok (.ireturn, 1) := by decide +kernel
theorem dX7_not0_0 : decode cX7_not0 0 = .ok (.aload_n 0, 1) := by decide +kernel
theorem dX7_not0_1 : decode cX7_not0 1 = .ok (.bipush 110, 2) := by decide +kernel
theorem dX7_not0_3 : decode cX7_not0 3 = .ok (.bipush 111, 2) := by decide +kernel
theorem dX7_not0_5 : decode cX7_not0 5 = .ok (.bipush 116, 2) := by decide +kernel
theorem dX7_not0_7 : decode cX7_not0 7 = .ok (.iconst 0, 1) := by decide +kernel
theorem dX7_not0_8 : decode cX7_not0 8 = .ok (.iconst 0, 1) := by decide +kernel
theorem dX7_not0_9 : decode cX7_not0 9 = .ok (.iconst 0, 1) := by decide +kernel
theorem dX7_not0_10 : decode cX7_not0 10 = .ok (.iconst 0, 1) := by decide +kernel
theorem dX7_not0_11 : decode cX7_not0 11 = .ok (.iconst 0, 1) := by decide +kernel
theorem dX7_not0_12 : decode cX7_not0 12 = .ok (.invokevirtual 188, 3) := by decide +kernel
theorem dX7_not0_15 : decode cX7_not0 15 = .ok (.ifCond .eq 37, 3) := by decide +kernel
theorem dX7_not0_18 : decode cX7_not0 18 = .ok (.aload_n 0, 1) := by decide +kernel
theorem dX7_not0_19 : decode cX7_not0 19 = .ok (.invokevirtual 213, 3) := by decide +kernel
theorem dX7_not0_22 : decode cX7_not0 22 = .ok (.ifCond .ne 5, 3) := by decide +kernel
theorem dX7_not0_25 : decode cX7_not0 25 = .ok (.iconst 0, 1) := by decide +kernel
theorem dX7_not0_26 : decode cX7_not0 26 = .ok (.ireturn, 1) := by decide +kernel
theorem dX7_not0_27 : decode cX7_not0 27 = .ok (.aload_n 0, 1) := by decide +kernel
theorem dX7_not0_28 : decode cX7_not0 28 = .ok (.invokevirtual 306, 3) := by decide +kernel
theorem dX7_not0_31 : decode cX7_not0 31 = .ok (.istore_n 1, 1) := by decide +kernel
theorem dX7_not0_32 : decode cX7_not0 32 = .ok (.aload_n 0, 1) := by decide +kernel
theorem dX7_not0_33 : decode cX7_not0 33 = .ok (.dup, 1) := by decide +kernel
theorem dX7_not0_34 : decode cX7_not0 34 = .ok (.getfield 179, 3) := by decide +kernel
theorem dX7_not0_37 : decode cX7_not0 37 = .ok (.iconst 1, 1) := by decide +kernel
theorem dX7_not0_38 : decode cX7_not0 38 = .ok (.isub, 1) := by decide +kernel
theorem dX7_not0_39 : decode cX7_not0 39 = .ok (.putfield 179, 3) := by decide +kernel
theorem dX7_not0_42 : decode cX7_not0 42 = .ok (.iload_n 1, 1) := by decide +kernel
theorem dX7_not0_43 : decode cX7_not0 43 = .ok (.ifCond .ne 7, 3) := by decide +kernel
theorem dX7_not0_46 : decode cX7_not0 46 = .ok (.iconst 1, 1) := by decide +kernel
theorem dX7_not0_47 : decode cX7_not0 47 = .ok (.goto 4, 3) := by decide +kernel
theorem dX7_not0_50 : decode cX7_not0 50 = .ok (.iconst 0, 1) := by decide +kernel
theorem dX7_not0_51 : decode cX7_not0 51 = .ok (.ireturn, 1) := by decide +kernel
theorem dX7_not0_52 : decode cX7_not0 52 = .ok (.aload_n 0, 1) := by decide +kernel
theorem dX7_not0_53 : decode cX7_not0 53 = .ok (.invokevirtual 321, 3) := by decide +kernel
theorem dX7_not0_56 : decode cX7_not0 56 = .ok (.istore_n 1, 1) := by decide +kernel
theorem dX7_not0_57 : decode cX7_not0 57 = .ok (.aload_n 0, 1) := by decide +kernel
theorem dX7_not0_58 : decode cX7_not0 58 = .ok (.bipush 60, 2) := by decide +kernel
theorem dX7_not0_60 : decode cX7_not0 60 = .ok (.invokevirtual 210, 3) := by decide +kernel
theorem dX7_not0_63 : decode cX7_not0 63 = .ok (.ifCond .ne 14, 3) := by decide +kernel
theorem dX7_not0_66 : decode cX7_not0 66 = .ok (.aload_n 0, 1) := by decide +kernel
theorem dX7_not0_67 : decode cX7_not0 67 = .ok (.bipush 61, 2) := by decide +kernel
theorem dX7_not0_69 : decode cX7_not0 69 = .ok (.invokevirtual 210, 3) := by decide +kernel
theorem dX7_not0_72 : decode cX7_not0 72 = .ok (.ifCond .ne 5, 3) := by decide +kernel
theorem dX7_not0_75 : decode cX7_not0 75 = .ok (.iload_n 1, 1) := by decide +kernel
theorem dX7_not0_76 : decode cX7_not0 76 = .ok (.ireturn, 1) := by decide +kernel
theorem dX7_not0_77 : decode cX7_not0 77 = .ok (.aload_n 0, 1) := by decide +kernel
theorem dX7_not0_78 : decode cX7_not0 78 = .ok (.getfield 165, 3) := by decide +kernel
theorem dX7_not0_81 : decode cX7_not0 81 = .ok (.ldc2_w 232, 3) := by decide +kernel
theorem dX7_not0_84 : decode cX7_not0 84 = .ok (.lcmp, 1) := by decide +kernel
theorem dX7_not0_85 : decode cX7_not0 85 = .ok (.ifCond .ne 7, 3) := by decide +kernel
theorem dX7_not0_88 : decode cX7_not0 88 = .ok (.iconst 1, 1) := by decide +kernel
theorem dX7_not0_89 : decode cX7_not0 89 = .ok (.goto 4, 3) := by decide +kernel
theorem dX7_not0_92 : decode cX7_not0 92 = .ok (.iconst 0, 1) := by decide +kernel
theorem dX7_not0_93 : decode cX7_not0 93 = .ok (.istore_n 2, 1) := by decide +kernel
theorem dX7_not0_94 : decode cX7_not0 94 = .ok (.aload_n 0, 1) := by decide +kernel
theorem dX7_not0_95 : decode cX7_not0 95 = .ok (.invokevirtual 185, 3) := by decide +kernel
theorem dX7_not0_98 : decode cX7_not0 98 = .ok (.aload_n 0, 1) := by decide +kernel
theorem dX7_not0_99 : decode cX7_not0 99 = .ok (.invokevirtual 321, 3) := by decide +kernel
theorem dX7_not0_102 : decode cX7_not0 102 = .ok (.istore_n 3, 1) := by decide +kernel
theorem dX7_not0_103 : decode cX7_not0 103 = .ok (.iload_n 2, 1) := by decide +kernel
theorem dX7_not0_104 : decode cX7_not0 104 = .ok (.ifCond .eq 11, 3) := by decide +kernel
theorem dX7_not0_107 : decode cX7_not0 107 = .ok (.iload_n 1, 1) := by decide +kernel
theorem dX7_not0_108 : decode cX7_not0 108 = .ok (.iload_n 3, 1) := by decide +kernel
theorem dX7_not0_109 : decode cX7_not0 109 = .ok (.if_icmp .ge 15, 3) := by decide +kernel
theorem dX7_not0_112 : decode cX7_not0 112 = .ok (.goto 8, 3) := by decide +kernel
theorem dX7_not0_115 : decode cX7_not0 115 = .ok (.iload_n 1, 1) := by decide +kernel
theorem dX7_not0_116 : decode cX7_not0 116 = .ok (.iload_n 3, 1) := by decide +kernel
theorem dX7_not0_117 : decode cX7_not0 117 = .ok (.if_icmp .ne 7, 3) := by decide +kernel
theorem dX7_not0_120 : decode cX7_not0 120 = .ok (.iconst 1, 1) := by decide +kernel
theorem dX7_not0_121 : decode cX7_not0 121 = .ok (.goto 4, 3) := by decide +kernel
theorem dX7_not0_124 : decode cX7_not0 124 = .ok (.iconst 0, 1) := by decide +kernel
theorem dX7_not0_125 : decode cX7_not0 125 = .ok (.ireturn, 1) := by decide +kernel
theorem dX7_both0_0 : decode cX7_both0 0 = .ok (.aload_n 0, 1) := by decide +kernel
theorem dX7_both0_1 : decode cX7_both0 1 = .ok (.invokevirtual 324, 3) := by decide +kernel
theorem dX7_both0_4 : decode cX7_both0 4 = .ok (.istore_n 1, 1) := by decide +kernel
theorem dX7_both0_5 : decode cX7_both0 5 = .ok (.aload_n 0, 1) := by decide +kernel
theorem dX7_both0_6 : decode cX7_both0 6 = .ok (.bipush 97, 2) := by decide +kernel
theorem dX7_both0_8 : decode cX7_both0 8 = .ok (.bipush 110, 2) := by decide +kernel
theorem dX7_both0_10 : decode cX7_both0 10 = .ok (.bipush 100, 2) := by decide +kernel
theorem dX7_both0_12 : decode cX7_both0 12 = .ok (.iconst 0, 1) := by decide +kernel
theorem dX7_both0_13 : decode cX7_both0 13 = .ok (.iconst 0, 1) := by decide +kernel
theorem dX7_both0_14 : decode cX7_both0 14 = .ok (.iconst 0, 1) := by decide +kernel
theorem dX7_both0_15 : decode cX7_both0 15 = .ok (.iconst 0, 1) := by decide +kernel
theorem dX7_both0_16 : decode cX7_both0 16 = .ok (.iconst 0, 1) := by decide +kernel
theorem dX7_both0_17 : decode cX7_both0 17 = .ok (.invokevirtual 188, 3) := by decide +kernel
theorem dX7_both0_20 : decode cX7_both0 20 = .ok (.ifCond .eq 29, 3) := by decide +kernel
theorem dX7_both0_23 : decode cX7_both0 23 = .ok (.aload_n 0, 1) := by decide +kernel
theorem dX7_both0_24 : decode cX7_both0 24 = .ok (.invokevirtual 185, 3) := by decide +kernel
theorem dX7_both0_27 : decode cX7_both0 27 = .ok (.aload_n 0, 1) := by decide +kernel
theorem dX7_both0_28 : decode cX7_both0 28 = .ok (.invokevirtual 324, 3) := by decide +kernel
theorem dX7_both0_31 : decode cX7_both0 31 = .ok (.istore_n 2, 1) := by decide +kernel
theorem dX7_both0_32 : decode cX7_both0 32 = .ok (.iload_n 1, 1) := by decide +kernel
theorem dX7_both0_33 : decode cX7_both0 33 = .ok (.ifCond .eq 11, 3) := by decide +kernel
theorem dX7_both0_36 : decode cX7_both0 36 = .ok (.iload_n 2, 1) := by decide +kernel
theorem dX7_both0_37 : decode cX7_both0 37 = .ok (.ifCond .eq 7, 3) := by decide +kernel
theorem dX7_both0_40 : decode cX7_both0 40 = .ok (.iconst 1, 1) := by decide +kernel
theorem dX7_both0_41 : decode cX7_both0 41 = .ok (.goto 4, 3) := by decide +kernel
theorem dX7_both0_44 : decode cX7_both0 44 = .ok (.iconst 0, 1) := by decide +kernel
theorem dX7_both0_45 : decode cX7_both0 45 = .ok (.istore_n 1, 1) := by decide +kernel
theorem dX7_both0_46 : decode cX7_both0 46 = .ok (.goto (-41), 3) := by decide +kernel
theorem dX7_both0_49 : decode cX7_both0 49 = .ok (.iload_n 1, 1) := by decide +kernel
theorem dX7_both0_50 : decode cX7_both0 50 = .ok (.ireturn, 1) := by decide +kernel
theorem dX7_either0_0 : decode cX7_either0 0 = .ok (.aload_n 0, 1) := by decide +kernel
theorem dX7_either0_1 : decode cX7_either0 1 = .ok (.invokevirtual 327, 3) := by decide +kernel
theorem dX7_either0_4 : decode cX7_either0 4 = .ok (.istore_n 1, 1) := by decide +kernel
theorem dX7_either0_5 : decode cX7_either0 5 = .ok (.aload_n 0, 1) := by decide +kernel
theorem dX7_either0_6 : decode cX7_either0 6 = .ok (.bipush 111, 2) := by decide +kernel
theorem dX7_either0_8 : decode cX7_either0 8 = .ok (.bipush 114, 2) := by decide +kernel
theorem dX7_either0_10 : decode cX7_either0 10 = .ok (.iconst 0, 1) := by decide +kernel
theorem dX7_either0_11 : decode cX7_either0 11 = .ok (.iconst 0, 1) := by decide +kernel
theorem dX7_either0_12 : decode cX7_either0 12 = .ok (.iconst 0, 1) := by decide +kernel
theorem dX7_either0_13 : decode cX7_either0 13 = .ok (.iconst 0, 1) := by decide +kernel
theorem dX7_either0_14 : decode cX7_either0 14 = .ok (.iconst 0, 1) := by decide +kernel
theorem dX7_either0_15 : decode cX7_either0 15 = .ok (.iconst 0, 1) := by decide +kernel
theorem dX7_either0_16 : decode cX7_either0 16 = .ok (.invokevirtual 188, 3) := by decide +kernel
theorem dX7_either0_19 : decode cX7_either0 19 = .ok (.ifCond .eq 29, 3) := by decide +kernel
theorem dX7_either0_22 : decode cX7_either0 22 = .ok (.aload_n 0, 1) := by decide +kernel
theorem dX7_either0_23 : decode cX7_either0 23 = .ok (.invokevirtual 185, 3) := by decide +kernel
theorem dX7_either0_26 : decode cX7_either0 26 = .ok (.aload_n 0, 1) := by decide +kernel
theorem dX7_either0_27 : decode cX7_either0 27 = .ok (.invokevirtual 327, 3) := by decide +kernel
theorem dX7_either0_30 : decode cX7_either0 30 = .ok (.istore_n 2, 1) := by decide +kernel
theorem dX7_either0_31 : decode cX7_either0 31 = .ok (.iload_n 1, 1) := by decide +kernel
theorem dX7_either0_32 : decode cX7_either0 32 = .ok (.ifCond .ne 7, 3) := by decide +kernel
theorem dX7_either0_35 : decode cX7_either0 35 = .ok (.iload_n 2, 1) := by decide +kernel
theorem dX7_either0_36 : decode cX7_either0 36 = .ok (.ifCond .eq 7, 3) := by decide +kernel
theorem dX7_either0_39 : decode cX7_either0 39 = .ok (.iconst 1, 1) := by decide +kernel
theorem dX7_either0_40 : decode cX7_either0 40 = .ok (.goto 4, 3) := by decide +kernel
theorem dX7_either0_43 : decode cX7_either0 43 = .ok (.iconst 0, 1) := by decide +kernel
theorem dX7_either0_44 : decode cX7_either0 44 = .ok (.istore_n 1, 1) := by decide +kernel
theorem dX7_either0_45 : decode cX7_either0 45 = .ok (.goto (-40), 3) := by decide +kernel
theorem dX7_either0_48 : decode cX7_either0 48 = .ok (.iload_n 1, 1) := by decide +kernel
theorem dX7_either0_49 : decode cX7_either0 49 = .ok (.ireturn, 1) := by decide +kernel
theorem dX7_part_0 : decode cX7_part 0 = .ok (.iload_n 1, 1) := by decide +kernel
theorem dX7_part_1 : decode cX7_part 1 = .ok (.ifCond .ne 7, 3) := by decide +kernel
theorem dX7_part_4 : decode cX7_part 4 = .ok (.aload_n 0, 1) := by decide +kernel
theorem dX7_part_5 : decode cX7_part 5 = .ok (.invokevirtual 182, 3) := by decide +kernel
theorem dX7_part_8 : decode cX7_part 8 = .ok (.aload_n 0, 1) := by decide +kernel
theorem dX7_part_9 : decode cX7_part 9 = .ok (.getfield 169, 3) := by decide +kernel
theorem dX7_part_12 : decode cX7_part 12 = .ok (.ifCond .ne 7, 3) := by decide +kernel
theorem dX7_part_15 : decode cX7_part 15 = .ok (.aload_n 0, 1) := by decide +kernel
theorem dX7_part_16 : decode cX7_part 16 = .ok (.invokevirtual 185, 3) := by decide +kernel
theorem dX7_part_19 : decode cX7_part 19 = .ok (.aload_n 0, 1) := by decide +kernel
theorem dX7_part_20 : decode cX7_part 20 = .ok (.getfield 169, 3) := by decide +kernel
theorem dX7_part_23 : decode cX7_part 23 = .ok (.ifCond .eq 7, 3) := by decide +kernel
theorem dX7_part_26 : decode cX7_part 26 = .ok (.iconst 0, 1) := by decide +kernel
theorem dX7_part_27 : decode cX7_part 27 = .ok (.goto 7, 3) := by decide +kernel
theorem dX7_part_30 : decode cX7_part 30 = .ok (.aload_n 0, 1) := by decide +kernel
theorem dX7_part_31 : decode cX7_part 31 = .ok (.invokevirtual 330, 3) := by decide +kernel
theorem dX7_part_34 : decode cX7_part 34 = .ok (.istore_n 2, 1) := by decide +kernel
theorem dX7_part_35 : decode cX7_part 35 = .ok (.aload_n 0, 1) := by decide +kernel
theorem dX7_part_36 : decode cX7_part 36 = .ok (.bipush 59, 2) := by decide +kernel
theorem dX7_part_38 : decode cX7_part 38 = .ok (.invokevirtual 210, 3) := by decide +kernel
theorem dX7_part_41 : decode cX7_part 41 = .ok (.ifCond .ne 7, 3) := by decide +kernel
theorem dX7_part_44 : decode cX7_part 44 = .ok (.aload_n 0, 1) := by decide +kernel
theorem dX7_part_45 : decode cX7_part 45 = .ok (.invokevirtual 182, 3) := by decide +kernel
theorem dX7_part_48 : decode cX7_part 48 = .ok (.aload_n 0, 1) := by decide +kernel
theorem dX7_part_49 : decode cX7_part 49 = .ok (.getfield 169, 3) := by decide +kernel
theorem dX7_part_52 : decode cX7_part 52 = .ok (.ifCond .ne 7, 3) := by decide +kernel
theorem dX7_part_55 : decode cX7_part 55 = .ok (.aload_n 0, 1) := by decide +kernel
theorem dX7_part_56 : decode cX7_part 56 = .ok (.invokevirtual 185, 3) := by decide +kernel
theorem dX7_part_59 : decode cX7_part 59 = .ok (.iload_n 2, 1) := by decide +kernel
theorem dX7_part_60 : decode cX7_part 60 = .ok (.ireturn, 1) := by decide +kernel
section SIM
variable {p : Program} {l : Launch} {e : Env} {R : Room} {s : State} {m : MethodId} {args : Array Value} {below : List Frame} {meth : Method} {c : Code} {D : va_G} {cA : Nat → ClassId} {ad : Nat → Nat} {bs n0 z0 d : Nat} {H0 : Heap} {rv : Option Value} {hf : aM} {E : Nat → List Value → aM → Option Value → aM → Prop} {X : aXt × Value}

set_option maxHeartbeats 4000000 in
set_option maxRecDepth 20000 in
theorem sm_X7_atom2 (hC : aC p s m args c cX7_atom2 2 RX7 D cA ad bs n0 H0 X) (hF : ∀ ml, ml ≤ 41 → aFit R d ml) (hRm : 16 ≤ R.frames ∧ 1000 ≤ R.locals) (hE : aCalls l D cA ad bs X d E) (hr : meth.sig.returnType = (some .int)) (hlk : meth.locks = false) : aSims (fun f i => aSim p l e R s m args below meth c (aEnd below s args D cA ad bs n0 z0 rv hf) 2 D cA ad bs n0 z0 H0 (apc pc_X7_atom2) rv hf E f i) (cd_X7_atom2) 0 := by
  unfold cd_X7_atom2
  refine aSims_c (i := 0) (s_iconst hC dX7_atom2_0 rfl rfl rfl) ?_
  refine aSims_c (i := 1) (s_istore_n hC dX7_atom2_1 rfl rfl) ?_
  refine aSims_c (i := 2) (s_aload_n hC dX7_atom2_2 rfl rfl) ?_
  refine aSims_c (i := 3) (s_bipush hC dX7_atom2_3 rfl rfl rfl) ?_
  refine aSims_c (i := 4) (s_callV (n := 1) hC dX7_atom2_5 rfl rfl (hE 130 _ _ _ _ rfl) (hF _ (by decide)) w_1100 w_1097 w_1099 w_54 w_109 rfl (by decide +kernel)) ?_
  refine aSims_c (i := 5) (s_if_eq hC dX7_atom2_8 rfl rfl rfl) ?_
  refine aSims_c (i := 6) (s_aload_n hC dX7_atom2_11 rfl rfl) ?_
  refine aSims_c (i := 7) (s_callV (n := 0) hC dX7_atom2_12 rfl rfl (hE 131 _ _ _ _ rfl) (hF _ (by decide)) w_1064 w_1061 w_1063 w_45 w_109 rfl (by decide +kernel)) ?_
  refine aSims_c (i := 8) (s_if_eq hC dX7_atom2_15 rfl rfl rfl) ?_
  refine aSims_c (i := 9) (s_aload_n hC dX7_atom2_18 rfl rfl) ?_
  refine aSims_c (i := 10) (s_callV (n := 0) hC dX7_atom2_19 rfl rfl (hE 145 _ _ _ _ rfl) (hF _ (by decide)) w_1138 w_1135 w_1137 w_63 w_109 rfl (by decide +kernel)) ?_
  refine aSims_c (i := 11) (s_ineg hC dX7_atom2_22 rfl rfl) ?_
  refine aSims_c (i := 12) (s_istore_n hC dX7_atom2_23 rfl rfl) ?_
  refine aSims_c (i := 13) (s_aload_n hC dX7_atom2_24 rfl rfl) ?_
  refine aSims_c (i := 14) (s_dup hC dX7_atom2_25 rfl rfl) ?_
  refine aSims_c (i := 15) (s_get hC dX7_atom2_26 rfl rfl w_867 rfl rfl inB7 (by decide)) ?_
  refine aSims_c (i := 16) (s_iconst hC dX7_atom2_29 rfl rfl rfl) ?_
  refine aSims_c (i := 17) (s_isub hC dX7_atom2_30 rfl rfl) ?_
  refine aSims_c (i := 18) (s_put hC dX7_atom2_31 rfl rfl w_867 rfl rfl inB7 tyX7_ok nmX7 (by decide) rfl) ?_
  refine aSims_c (i := 19) (s_goto hC dX7_atom2_34 rfl rfl) ?_
  refine aSims_c (i := 20) (s_aload_n hC dX7_atom2_37 rfl rfl) ?_
  refine aSims_c (i := 21) (s_bipush hC dX7_atom2_38 rfl rfl rfl) ?_
  refine aSims_c (i := 22) (s_callV (n := 1) hC dX7_atom2_40 rfl rfl (hE 130 _ _ _ _ rfl) (hF _ (by decide)) w_1100 w_1097 w_1099 w_54 w_109 rfl (by decide +kernel)) ?_
  refine aSims_c (i := 23) (s_if_eq hC dX7_atom2_43 rfl rfl rfl) ?_
  refine aSims_c (i := 24) (s_aload_n hC dX7_atom2_46 rfl rfl) ?_
  refine aSims_c (i := 25) (s_callV (n := 0) hC dX7_atom2_47 rfl rfl (hE 131 _ _ _ _ rfl) (hF _ (by decide)) w_1064 w_1061 w_1063 w_45 w_109 rfl (by decide +kernel)) ?_
  refine aSims_c (i := 26) (s_if_eq hC dX7_atom2_50 rfl rfl rfl) ?_
  refine aSims_c (i := 27) (s_aload_n hC dX7_atom2_53 rfl rfl) ?_
  refine aSims_c (i := 28) (s_callV (n := 0) hC dX7_atom2_54 rfl rfl (hE 150 _ _ _ _ rfl) (hF _ (by decide)) w_1162 w_1159 w_1161 w_69 w_109 rfl (by decide +kernel)) ?_
  refine aSims_c (i := 29) (s_istore_n hC dX7_atom2_57 rfl rfl) ?_
  refine aSims_c (i := 30) (s_aload_n hC dX7_atom2_58 rfl rfl) ?_
  refine aSims_c (i := 31) (s_bipush hC dX7_atom2_59 rfl rfl rfl) ?_
  refine aSims_c (i := 32) (s_callV (n := 1) hC dX7_atom2_61 rfl rfl (hE 130 _ _ _ _ rfl) (hF _ (by decide)) w_1100 w_1097 w_1099 w_54 w_109 rfl (by decide +kernel)) ?_
  refine aSims_c (i := 33) (s_if_ne hC dX7_atom2_64 rfl rfl rfl) ?_
  refine aSims_c (i := 34) (s_aload_n hC dX7_atom2_67 rfl rfl) ?_
  refine aSims_c (i := 35) (s_callV (n := 0) hC dX7_atom2_68 rfl rfl (hE 127 _ _ _ _ rfl) (hF _ (by decide)) w_1048 w_1045 w_1047 w_41 w_109 rfl (by decide +kernel)) ?_
  refine aSims_c (i := 36) (s_aload_n hC dX7_atom2_71 rfl rfl) ?_
  refine aSims_c (i := 37) (s_dup hC dX7_atom2_72 rfl rfl) ?_
  refine aSims_c (i := 38) (s_get hC dX7_atom2_73 rfl rfl w_867 rfl rfl inB7 (by decide)) ?_
  refine aSims_c (i := 39) (s_iconst hC dX7_atom2_76 rfl rfl rfl) ?_
  refine aSims_c (i := 40) (s_isub hC dX7_atom2_77 rfl rfl) ?_
  refine aSims_c (i := 41) (s_put hC dX7_atom2_78 rfl rfl w_867 rfl rfl inB7 tyX7_ok nmX7 (by decide) rfl) ?_
  refine aSims_c (i := 42) (s_aload_n hC dX7_atom2_81 rfl rfl) ?_
  refine aSims_c (i := 43) (s_get hC dX7_atom2_82 rfl rfl w_868 rfl rfl inB7 (by decide)) ?_
  refine aSims_c (i := 44) (s_if_ne hC dX7_atom2_85 rfl rfl rfl) ?_
  refine aSims_c (i := 45) (s_aload_n hC dX7_atom2_88 rfl rfl) ?_
  refine aSims_c (i := 46) (s_callV (n := 0) hC dX7_atom2_89 rfl rfl (hE 126 _ _ _ _ rfl) (hF _ (by decide)) w_1024 w_1021 w_1023 w_36 w_109 rfl (by decide +kernel)) ?_
  refine aSims_c (i := 47) (s_goto hC dX7_atom2_92 rfl rfl) ?_
  refine aSims_c (i := 48) (s_aload_n hC dX7_atom2_95 rfl rfl) ?_
  refine aSims_c (i := 49) (s_get hC dX7_atom2_96 rfl rfl w_868 rfl rfl inB7 (by decide)) ?_
  refine aSims_c (i := 50) (s_if_ne hC dX7_atom2_99 rfl rfl rfl) ?_
  refine aSims_c (i := 51) (s_aload_n hC dX7_atom2_102 rfl rfl) ?_
  refine aSims_c (i := 52) (s_get hC dX7_atom2_103 rfl rfl w_864 rfl rfl inB7 (by decide)) ?_
  refine aSims_c (i := 53) (s_iconst hC dX7_atom2_106 rfl rfl rfl) ?_
  refine aSims_c (i := 54) (s_icmp_ne hC dX7_atom2_107 rfl rfl rfl) ?_
  refine aSims_c (i := 55) (s_aload_n hC dX7_atom2_110 rfl rfl) ?_
  refine aSims_c (i := 56) (s_get hC dX7_atom2_111 rfl rfl w_866 rfl rfl inB7 (by decide)) ?_
  refine aSims_c (i := 57) (s_l2i hC dX7_atom2_114 rfl rfl) ?_
  refine aSims_c (i := 58) (s_istore_n hC dX7_atom2_115 rfl rfl) ?_
  refine aSims_c (i := 59) (s_aload_n hC dX7_atom2_116 rfl rfl) ?_
  refine aSims_c (i := 60) (s_callV (n := 0) hC dX7_atom2_117 rfl rfl (hE 126 _ _ _ _ rfl) (hF _ (by decide)) w_1024 w_1021 w_1023 w_36 w_109 rfl (by decide +kernel)) ?_
  refine aSims_c (i := 61) (s_goto hC dX7_atom2_120 rfl rfl) ?_
  refine aSims_c (i := 62) (s_aload_n hC dX7_atom2_123 rfl rfl) ?_
  refine aSims_c (i := 63) (s_get hC dX7_atom2_124 rfl rfl w_868 rfl rfl inB7 (by decide)) ?_
  refine aSims_c (i := 64) (s_if_ne hC dX7_atom2_127 rfl rfl rfl) ?_
  refine aSims_c (i := 65) (s_aload_n hC dX7_atom2_130 rfl rfl) ?_
  refine aSims_c (i := 66) (s_get hC dX7_atom2_131 rfl rfl w_864 rfl rfl inB7 (by decide)) ?_
  refine aSims_c (i := 67) (s_iconst hC dX7_atom2_134 rfl rfl rfl) ?_
  refine aSims_c (i := 68) (s_icmp_ne hC dX7_atom2_135 rfl rfl rfl) ?_
  refine aSims_c (i := 69) (s_aload_n hC dX7_atom2_138 rfl rfl) ?_
  refine aSims_c (i := 70) (s_callV (n := 0) hC dX7_atom2_139 rfl rfl (hE 132 _ _ _ _ rfl) (hF _ (by decide)) w_1104 w_1101 w_1103 w_55 w_109 rfl (by decide +kernel)) ?_
  refine aSims_c (i := 71) (s_istore_n hC dX7_atom2_142 rfl rfl) ?_
  refine aSims_c (i := 72) (s_aload_n hC dX7_atom2_143 rfl rfl) ?_
  refine aSims_c (i := 73) (s_get hC dX7_atom2_144 rfl rfl w_868 rfl rfl inB7 (by decide)) ?_
  refine aSims_c (i := 74) (s_if_ne hC dX7_atom2_147 rfl rfl rfl) ?_
  refine aSims_c (i := 75) (s_aload_n hC dX7_atom2_150 rfl rfl) ?_
  refine aSims_c (i := 76) (s_callV (n := 0) hC dX7_atom2_151 rfl rfl (hE 126 _ _ _ _ rfl) (hF _ (by decide)) w_1024 w_1021 w_1023 w_36 w_109 rfl (by decide +kernel)) ?_
  refine aSims_c (i := 77) (s_goto hC dX7_atom2_154 rfl rfl) ?_
  refine aSims_c (i := 78) (s_aload_n hC dX7_atom2_157 rfl rfl) ?_
  refine aSims_c (i := 79) (s_callV (n := 0) hC dX7_atom2_158 rfl rfl (hE 127 _ _ _ _ rfl) (hF _ (by decide)) w_1048 w_1045 w_1047 w_41 w_109 rfl (by decide +kernel)) ?_
  refine aSims_c (i := 80) (s_iload_n hC dX7_atom2_161 rfl rfl) ?_
  refine aSims_c (i := 81) (s_iret hC dX7_atom2_162 rfl hr hlk nar_qI) ?_
  exact aSims_n
set_option maxHeartbeats 4000000 in
set_option maxRecDepth 20000 in
theorem sm_X7_term2 (hC : aC p s m args c cX7_term2 2 RX7 D cA ad bs n0 H0 X) (hF : ∀ ml, ml ≤ 41 → aFit R d ml) (hRm : 16 ≤ R.frames ∧ 1000 ≤ R.locals) (hE : aCalls l D cA ad bs X d E) (hr : meth.sig.returnType = (some .int)) (hlk : meth.locks = false) : aSims (fun f i => aSim p l e R s m args below meth c (aEnd below s args D cA ad bs n0 z0 rv hf) 2 D cA ad bs n0 z0 H0 (apc pc_X7_term2) rv hf E f i) (cd_X7_term2) 0 := by
  unfold cd_X7_term2
  refine aSims_c (i := 0) (s_aload_n hC dX7_term2_0 rfl rfl) ?_
  refine aSims_c (i := 1) (s_callV (n := 0) hC dX7_term2_1 rfl rfl (hE 151 _ _ _ _ rfl) (hF _ (by decide)) w_1158 w_1155 w_1157 w_68 w_109 rfl (by decide +kernel)) ?_
  refine aSims_c (i := 2) (s_istore_n hC dX7_term2_4 rfl rfl) ?_
  refine aSims_c (i := 3) (s_aload_n hC dX7_term2_5 rfl rfl) ?_
  refine aSims_c (i := 4) (s_bipush hC dX7_term2_6 rfl rfl rfl) ?_
  refine aSims_c (i := 5) (s_callV (n := 1) hC dX7_term2_8 rfl rfl (hE 130 _ _ _ _ rfl) (hF _ (by decide)) w_1100 w_1097 w_1099 w_54 w_109 rfl (by decide +kernel)) ?_
  refine aSims_c (i := 6) (s_if_eq hC dX7_term2_11 rfl rfl rfl) ?_
  refine aSims_c (i := 7) (s_aload_n hC dX7_term2_14 rfl rfl) ?_
  refine aSims_c (i := 8) (s_callV (n := 0) hC dX7_term2_15 rfl rfl (hE 126 _ _ _ _ rfl) (hF _ (by decide)) w_1024 w_1021 w_1023 w_36 w_109 rfl (by decide +kernel)) ?_
  refine aSims_c (i := 9) (s_iload_n hC dX7_term2_18 rfl rfl) ?_
  refine aSims_c (i := 10) (s_aload_n hC dX7_term2_19 rfl rfl) ?_
  refine aSims_c (i := 11) (s_callV (n := 0) hC dX7_term2_20 rfl rfl (hE 151 _ _ _ _ rfl) (hF _ (by decide)) w_1158 w_1155 w_1157 w_68 w_109 rfl (by decide +kernel)) ?_
  refine aSims_c (i := 12) (s_imul hC dX7_term2_23 rfl rfl) ?_
  refine aSims_c (i := 13) (s_istore_n hC dX7_term2_24 rfl rfl) ?_
  refine aSims_c (i := 14) (s_goto hC dX7_term2_25 rfl rfl) ?_
  refine aSims_c (i := 15) (s_iload_n hC dX7_term2_28 rfl rfl) ?_
  refine aSims_c (i := 16) (s_iret hC dX7_term2_29 rfl hr hlk nar_qI) ?_
  exact aSims_n
set_option maxHeartbeats 4000000 in
set_option maxRecDepth 20000 in
theorem sm_X7_added2 (hC : aC p s m args c cX7_added2 4 RX7 D cA ad bs n0 H0 X) (hF : ∀ ml, ml ≤ 41 → aFit R d ml) (hRm : 16 ≤ R.frames ∧ 1000 ≤ R.locals) (hE : aCalls l D cA ad bs X d E) (hr : meth.sig.returnType = (some .int)) (hlk : meth.locks = false) : aSims (fun f i => aSim p l e R s m args below meth c (aEnd below s args D cA ad bs n0 z0 rv hf) 4 D cA ad bs n0 z0 H0 (apc pc_X7_added2) rv hf E f i) (cd_X7_added2) 0 := by
  unfold cd_X7_added2
  refine aSims_c (i := 0) (s_aload_n hC dX7_added2_0 rfl rfl) ?_
  refine aSims_c (i := 1) (s_callV (n := 0) hC dX7_added2_1 rfl rfl (hE 152 _ _ _ _ rfl) (hF _ (by decide)) w_1154 w_1151 w_1153 w_67 w_109 rfl (by decide +kernel)) ?_
  refine aSims_c (i := 2) (s_istore_n hC dX7_added2_4 rfl rfl) ?_
  refine aSims_c (i := 3) (s_aload_n hC dX7_added2_5 rfl rfl) ?_
  refine aSims_c (i := 4) (s_bipush hC dX7_added2_6 rfl rfl rfl) ?_
  refine aSims_c (i := 5) (s_callV (n := 1) hC dX7_added2_8 rfl rfl (hE 130 _ _ _ _ rfl) (hF _ (by decide)) w_1100 w_1097 w_1099 w_54 w_109 rfl (by decide +kernel)) ?_
  refine aSims_c (i := 6) (s_if_ne hC dX7_added2_11 rfl rfl rfl) ?_
  refine aSims_c (i := 7) (s_aload_n hC dX7_added2_14 rfl rfl) ?_
  refine aSims_c (i := 8) (s_bipush hC dX7_added2_15 rfl rfl rfl) ?_
  refine aSims_c (i := 9) (s_callV (n := 1) hC dX7_added2_17 rfl rfl (hE 130 _ _ _ _ rfl) (hF _ (by decide)) w_1100 w_1097 w_1099 w_54 w_109 rfl (by decide +kernel)) ?_
  refine aSims_c (i := 10) (s_if_eq hC dX7_added2_20 rfl rfl rfl) ?_
  refine aSims_c (i := 11) (s_aload_n hC dX7_added2_23 rfl rfl) ?_
  refine aSims_c (i := 12) (s_get hC dX7_added2_24 rfl rfl w_866 rfl rfl inB7 (by decide)) ?_
  refine aSims_c (i := 13) (s_ldc2 hC dX7_added2_27 w_1105 rfl rfl) ?_
  refine aSims_c (i := 14) (s_lcmp hC dX7_added2_30 rfl rfl) ?_
  refine aSims_c (i := 15) (s_if_ne hC dX7_added2_31 rfl rfl rfl) ?_
  refine aSims_c (i := 16) (s_iconst hC dX7_added2_34 rfl rfl rfl) ?_
  refine aSims_c (i := 17) (s_goto hC dX7_added2_35 rfl rfl) ?_
  refine aSims_c (i := 18) (s_iconst hC dX7_added2_38 rfl rfl rfl) ?_
  refine aSims_c (i := 19) (s_istore_n hC dX7_added2_39 rfl rfl) ?_
  refine aSims_c (i := 20) (s_aload_n hC dX7_added2_40 rfl rfl) ?_
  refine aSims_c (i := 21) (s_callV (n := 0) hC dX7_added2_41 rfl rfl (hE 126 _ _ _ _ rfl) (hF _ (by decide)) w_1024 w_1021 w_1023 w_36 w_109 rfl (by decide +kernel)) ?_
  refine aSims_c (i := 22) (s_aload_n hC dX7_added2_44 rfl rfl) ?_
  refine aSims_c (i := 23) (s_callV (n := 0) hC dX7_added2_45 rfl rfl (hE 152 _ _ _ _ rfl) (hF _ (by decide)) w_1154 w_1151 w_1153 w_67 w_109 rfl (by decide +kernel)) ?_
  refine aSims_c (i := 24) (s_istore_n hC dX7_added2_48 rfl rfl) ?_
  refine aSims_c (i := 25) (s_iload_n hC dX7_added2_49 rfl rfl) ?_
  refine aSims_c (i := 26) (s_if_eq hC dX7_added2_50 rfl rfl rfl) ?_
  refine aSims_c (i := 27) (s_iload_n hC dX7_added2_53 rfl rfl) ?_
  refine aSims_c (i := 28) (s_iload_n hC dX7_added2_54 rfl rfl) ?_
  refine aSims_c (i := 29) (s_iadd hC dX7_added2_55 rfl rfl) ?_
  refine aSims_c (i := 30) (s_goto hC dX7_added2_56 rfl rfl) ?_
  refine aSims_c (i := 31) (s_iload_n hC dX7_added2_59 rfl rfl) ?_
  refine aSims_c (i := 32) (s_iload_n hC dX7_added2_60 rfl rfl) ?_
  refine aSims_c (i := 33) (s_isub hC dX7_added2_61 rfl rfl) ?_
  refine aSims_c (i := 34) (s_istore_n hC dX7_added2_62 rfl rfl) ?_
  refine aSims_c (i := 35) (s_goto hC dX7_added2_63 rfl rfl) ?_
  refine aSims_c (i := 36) (s_iload_n hC dX7_added2_66 rfl rfl) ?_
  refine aSims_c (i := 37) (s_iret hC dX7_added2_67 rfl hr hlk nar_qI) ?_
  exact aSims_n
set_option maxHeartbeats 4000000 in
set_option maxRecDepth 20000 in
theorem sm_X7_not2 (hC : aC p s m args c cX7_not2 4 RX7 D cA ad bs n0 H0 X) (hF : ∀ ml, ml ≤ 41 → aFit R d ml) (hRm : 16 ≤ R.frames ∧ 1000 ≤ R.locals) (hE : aCalls l D cA ad bs X d E) (hr : meth.sig.returnType = (some .int)) (hlk : meth.locks = false) : aSims (fun f i => aSim p l e R s m args below meth c (aEnd below s args D cA ad bs n0 z0 rv hf) 4 D cA ad bs n0 z0 H0 (apc pc_X7_not2) rv hf E f i) (cd_X7_not2) 0 := by
  unfold cd_X7_not2
  refine aSims_c (i := 0) (s_aload_n hC dX7_not2_0 rfl rfl) ?_
  refine aSims_c (i := 1) (s_bipush hC dX7_not2_1 rfl rfl rfl) ?_
  refine aSims_c (i := 2) (s_bipush hC dX7_not2_3 rfl rfl rfl) ?_
  refine aSims_c (i := 3) (s_bipush hC dX7_not2_5 rfl rfl rfl) ?_
  refine aSims_c (i := 4) (s_iconst hC dX7_not2_7 rfl rfl rfl) ?_
  refine aSims_c (i := 5) (s_iconst hC dX7_not2_8 rfl rfl rfl) ?_
  refine aSims_c (i := 6) (s_iconst hC dX7_not2_9 rfl rfl rfl) ?_
  refine aSims_c (i := 7) (s_iconst hC dX7_not2_10 rfl rfl rfl) ?_
  refine aSims_c (i := 8) (s_iconst hC dX7_not2_11 rfl rfl rfl) ?_
  refine aSims_c (i := 9) (s_callV (n := 8) hC dX7_not2_12 rfl rfl (hE 129 _ _ _ _ rfl) (hF _ (by decide)) w_1036 w_1033 w_1035 w_38 w_109 rfl (by decide +kernel)) ?_
  refine aSims_c (i := 10) (s_if_eq hC dX7_not2_15 rfl rfl rfl) ?_
  refine aSims_c (i := 11) (s_aload_n hC dX7_not2_18 rfl rfl) ?_
  refine aSims_c (i := 12) (s_callV (n := 0) hC dX7_not2_19 rfl rfl (hE 131 _ _ _ _ rfl) (hF _ (by decide)) w_1064 w_1061 w_1063 w_45 w_109 rfl (by decide +kernel)) ?_
  refine aSims_c (i := 13) (s_if_ne hC dX7_not2_22 rfl rfl rfl) ?_
  refine aSims_c (i := 14) (s_iconst hC dX7_not2_25 rfl rfl rfl) ?_
  refine aSims_c (i := 15) (s_iret hC dX7_not2_26 rfl hr hlk nar_qI) ?_
  refine aSims_c (i := 16) (s_aload_n hC dX7_not2_27 rfl rfl) ?_
  refine aSims_c (i := 17) (s_callV (n := 0) hC dX7_not2_28 rfl rfl (hE 148 _ _ _ _ rfl) (hF _ (by decide)) w_1076 w_1073 w_1075 w_48 w_109 rfl (by decide +kernel)) ?_
  refine aSims_c (i := 18) (s_istore_n hC dX7_not2_31 rfl rfl) ?_
  refine aSims_c (i := 19) (s_aload_n hC dX7_not2_32 rfl rfl) ?_
  refine aSims_c (i := 20) (s_dup hC dX7_not2_33 rfl rfl) ?_
  refine aSims_c (i := 21) (s_get hC dX7_not2_34 rfl rfl w_867 rfl rfl inB7 (by decide)) ?_
  refine aSims_c (i := 22) (s_iconst hC dX7_not2_37 rfl rfl rfl) ?_
  refine aSims_c (i := 23) (s_isub hC dX7_not2_38 rfl rfl) ?_
  refine aSims_c (i := 24) (s_put hC dX7_not2_39 rfl rfl w_867 rfl rfl inB7 tyX7_ok nmX7 (by decide) rfl) ?_
  refine aSims_c (i := 25) (s_iload_n hC dX7_not2_42 rfl rfl) ?_
  refine aSims_c (i := 26) (s_if_ne hC dX7_not2_43 rfl rfl rfl) ?_
  refine aSims_c (i := 27) (s_iconst hC dX7_not2_46 rfl rfl rfl) ?_
  refine aSims_c (i := 28) (s_goto hC dX7_not2_47 rfl rfl) ?_
  refine aSims_c (i := 29) (s_iconst hC dX7_not2_50 rfl rfl rfl) ?_
  refine aSims_c (i := 30) (s_iret hC dX7_not2_51 rfl hr hlk nar_qI) ?_
  refine aSims_c (i := 31) (s_aload_n hC dX7_not2_52 rfl rfl) ?_
  refine aSims_c (i := 32) (s_callV (n := 0) hC dX7_not2_53 rfl rfl (hE 153 _ _ _ _ rfl) (hF _ (by decide)) w_1150 w_1147 w_1149 w_66 w_109 rfl (by decide +kernel)) ?_
  refine aSims_c (i := 33) (s_istore_n hC dX7_not2_56 rfl rfl) ?_
  refine aSims_c (i := 34) (s_aload_n hC dX7_not2_57 rfl rfl) ?_
  refine aSims_c (i := 35) (s_bipush hC dX7_not2_58 rfl rfl rfl) ?_
  refine aSims_c (i := 36) (s_callV (n := 1) hC dX7_not2_60 rfl rfl (hE 130 _ _ _ _ rfl) (hF _ (by decide)) w_1100 w_1097 w_1099 w_54 w_109 rfl (by decide +kernel)) ?_
  refine aSims_c (i := 37) (s_if_ne hC dX7_not2_63 rfl rfl rfl) ?_
  refine aSims_c (i := 38) (s_aload_n hC dX7_not2_66 rfl rfl) ?_
  refine aSims_c (i := 39) (s_bipush hC dX7_not2_67 rfl rfl rfl) ?_
  refine aSims_c (i := 40) (s_callV (n := 1) hC dX7_not2_69 rfl rfl (hE 130 _ _ _ _ rfl) (hF _ (by decide)) w_1100 w_1097 w_1099 w_54 w_109 rfl (by decide +kernel)) ?_
  refine aSims_c (i := 41) (s_if_ne hC dX7_not2_72 rfl rfl rfl) ?_
  refine aSims_c (i := 42) (s_iload_n hC dX7_not2_75 rfl rfl) ?_
  refine aSims_c (i := 43) (s_iret hC dX7_not2_76 rfl hr hlk nar_qI) ?_
  refine aSims_c (i := 44) (s_aload_n hC dX7_not2_77 rfl rfl) ?_
  refine aSims_c (i := 45) (s_get hC dX7_not2_78 rfl rfl w_866 rfl rfl inB7 (by decide)) ?_
  refine aSims_c (i := 46) (s_ldc2 hC dX7_not2_81 w_1106 rfl rfl) ?_
  refine aSims_c (i := 47) (s_lcmp hC dX7_not2_84 rfl rfl) ?_
  refine aSims_c (i := 48) (s_if_ne hC dX7_not2_85 rfl rfl rfl) ?_
  refine aSims_c (i := 49) (s_iconst hC dX7_not2_88 rfl rfl rfl) ?_
  refine aSims_c (i := 50) (s_goto hC dX7_not2_89 rfl rfl) ?_
  refine aSims_c (i := 51) (s_iconst hC dX7_not2_92 rfl rfl rfl) ?_
  refine aSims_c (i := 52) (s_istore_n hC dX7_not2_93 rfl rfl) ?_
  refine aSims_c (i := 53) (s_aload_n hC dX7_not2_94 rfl rfl) ?_
  refine aSims_c (i := 54) (s_callV (n := 0) hC dX7_not2_95 rfl rfl (hE 126 _ _ _ _ rfl) (hF _ (by decide)) w_1024 w_1021 w_1023 w_36 w_109 rfl (by decide +kernel)) ?_
  refine aSims_c (i := 55) (s_aload_n hC dX7_not2_98 rfl rfl) ?_
  refine aSims_c (i := 56) (s_callV (n := 0) hC dX7_not2_99 rfl rfl (hE 153 _ _ _ _ rfl) (hF _ (by decide)) w_1150 w_1147 w_1149 w_66 w_109 rfl (by decide +kernel)) ?_
  refine aSims_c (i := 57) (s_istore_n hC dX7_not2_102 rfl rfl) ?_
  refine aSims_c (i := 58) (s_iload_n hC dX7_not2_103 rfl rfl) ?_
  refine aSims_c (i := 59) (s_if_eq hC dX7_not2_104 rfl rfl rfl) ?_
  refine aSims_c (i := 60) (s_iload_n hC dX7_not2_107 rfl rfl) ?_
  refine aSims_c (i := 61) (s_iload_n hC dX7_not2_108 rfl rfl) ?_
  refine aSims_c (i := 62) (s_icmp_ge hC dX7_not2_109 rfl rfl rfl) ?_
  refine aSims_c (i := 63) (s_goto hC dX7_not2_112 rfl rfl) ?_
  refine aSims_c (i := 64) (s_iload_n hC dX7_not2_115 rfl rfl) ?_
  refine aSims_c (i := 65) (s_iload_n hC dX7_not2_116 rfl rfl) ?_
  refine aSims_c (i := 66) (s_icmp_ne hC dX7_not2_117 rfl rfl rfl) ?_
  refine aSims_c (i := 67) (s_iconst hC dX7_not2_120 rfl rfl rfl) ?_
  refine aSims_c (i := 68) (s_goto hC dX7_not2_121 rfl rfl) ?_
  refine aSims_c (i := 69) (s_iconst hC dX7_not2_124 rfl rfl rfl) ?_
  refine aSims_c (i := 70) (s_iret hC dX7_not2_125 rfl hr hlk nar_qI) ?_
  exact aSims_n
set_option maxHeartbeats 4000000 in
set_option maxRecDepth 20000 in
theorem sm_X7_both2 (hC : aC p s m args c cX7_both2 3 RX7 D cA ad bs n0 H0 X) (hF : ∀ ml, ml ≤ 41 → aFit R d ml) (hRm : 16 ≤ R.frames ∧ 1000 ≤ R.locals) (hE : aCalls l D cA ad bs X d E) (hr : meth.sig.returnType = (some .int)) (hlk : meth.locks = false) : aSims (fun f i => aSim p l e R s m args below meth c (aEnd below s args D cA ad bs n0 z0 rv hf) 3 D cA ad bs n0 z0 H0 (apc pc_X7_both2) rv hf E f i) (cd_X7_both2) 0 := by
  unfold cd_X7_both2
  refine aSims_c (i := 0) (s_aload_n hC dX7_both2_0 rfl rfl) ?_
  refine aSims_c (i := 1) (s_callV (n := 0) hC dX7_both2_1 rfl rfl (hE 154 _ _ _ _ rfl) (hF _ (by decide)) w_1072 w_1069 w_1071 w_47 w_109 rfl (by decide +kernel)) ?_
  refine aSims_c (i := 2) (s_istore_n hC dX7_both2_4 rfl rfl) ?_
  refine aSims_c (i := 3) (s_aload_n hC dX7_both2_5 rfl rfl) ?_
  refine aSims_c (i := 4) (s_bipush hC dX7_both2_6 rfl rfl rfl) ?_
  refine aSims_c (i := 5) (s_bipush hC dX7_both2_8 rfl rfl rfl) ?_
  refine aSims_c (i := 6) (s_bipush hC dX7_both2_10 rfl rfl rfl) ?_
  refine aSims_c (i := 7) (s_iconst hC dX7_both2_12 rfl rfl rfl) ?_
  refine aSims_c (i := 8) (s_iconst hC dX7_both2_13 rfl rfl rfl) ?_
  refine aSims_c (i := 9) (s_iconst hC dX7_both2_14 rfl rfl rfl) ?_
  refine aSims_c (i := 10) (s_iconst hC dX7_both2_15 rfl rfl rfl) ?_
  refine aSims_c (i := 11) (s_iconst hC dX7_both2_16 rfl rfl rfl) ?_
  refine aSims_c (i := 12) (s_callV (n := 8) hC dX7_both2_17 rfl rfl (hE 129 _ _ _ _ rfl) (hF _ (by decide)) w_1036 w_1033 w_1035 w_38 w_109 rfl (by decide +kernel)) ?_
  refine aSims_c (i := 13) (s_if_eq hC dX7_both2_20 rfl rfl rfl) ?_
  refine aSims_c (i := 14) (s_aload_n hC dX7_both2_23 rfl rfl) ?_
  refine aSims_c (i := 15) (s_callV (n := 0) hC dX7_both2_24 rfl rfl (hE 126 _ _ _ _ rfl) (hF _ (by decide)) w_1024 w_1021 w_1023 w_36 w_109 rfl (by decide +kernel)) ?_
  refine aSims_c (i := 16) (s_aload_n hC dX7_both2_27 rfl rfl) ?_
  refine aSims_c (i := 17) (s_callV (n := 0) hC dX7_both2_28 rfl rfl (hE 154 _ _ _ _ rfl) (hF _ (by decide)) w_1072 w_1069 w_1071 w_47 w_109 rfl (by decide +kernel)) ?_
  refine aSims_c (i := 18) (s_istore_n hC dX7_both2_31 rfl rfl) ?_
  refine aSims_c (i := 19) (s_iload_n hC dX7_both2_32 rfl rfl) ?_
  refine aSims_c (i := 20) (s_if_eq hC dX7_both2_33 rfl rfl rfl) ?_
  refine aSims_c (i := 21) (s_iload_n hC dX7_both2_36 rfl rfl) ?_
  refine aSims_c (i := 22) (s_if_eq hC dX7_both2_37 rfl rfl rfl) ?_
  refine aSims_c (i := 23) (s_iconst hC dX7_both2_40 rfl rfl rfl) ?_
  refine aSims_c (i := 24) (s_goto hC dX7_both2_41 rfl rfl) ?_
  refine aSims_c (i := 25) (s_iconst hC dX7_both2_44 rfl rfl rfl) ?_
  refine aSims_c (i := 26) (s_istore_n hC dX7_both2_45 rfl rfl) ?_
  refine aSims_c (i := 27) (s_goto hC dX7_both2_46 rfl rfl) ?_
  refine aSims_c (i := 28) (s_iload_n hC dX7_both2_49 rfl rfl) ?_
  refine aSims_c (i := 29) (s_iret hC dX7_both2_50 rfl hr hlk nar_qI) ?_
  exact aSims_n
set_option maxHeartbeats 4000000 in
set_option maxRecDepth 20000 in
theorem sm_X7_either2 (hC : aC p s m args c cX7_either2 3 RX7 D cA ad bs n0 H0 X) (hF : ∀ ml, ml ≤ 41 → aFit R d ml) (hRm : 16 ≤ R.frames ∧ 1000 ≤ R.locals) (hE : aCalls l D cA ad bs X d E) (hr : meth.sig.returnType = (some .int)) (hlk : meth.locks = false) : aSims (fun f i => aSim p l e R s m args below meth c (aEnd below s args D cA ad bs n0 z0 rv hf) 3 D cA ad bs n0 z0 H0 (apc pc_X7_either2) rv hf E f i) (cd_X7_either2) 0 := by
  unfold cd_X7_either2
  refine aSims_c (i := 0) (s_aload_n hC dX7_either2_0 rfl rfl) ?_
  refine aSims_c (i := 1) (s_callV (n := 0) hC dX7_either2_1 rfl rfl (hE 155 _ _ _ _ rfl) (hF _ (by decide)) w_1186 w_1183 w_1185 w_75 w_109 rfl (by decide +kernel)) ?_
  refine aSims_c (i := 2) (s_istore_n hC dX7_either2_4 rfl rfl) ?_
  refine aSims_c (i := 3) (s_aload_n hC dX7_either2_5 rfl rfl) ?_
  refine aSims_c (i := 4) (s_bipush hC dX7_either2_6 rfl rfl rfl) ?_
  refine aSims_c (i := 5) (s_bipush hC dX7_either2_8 rfl rfl rfl) ?_
  refine aSims_c (i := 6) (s_iconst hC dX7_either2_10 rfl rfl rfl) ?_
  refine aSims_c (i := 7) (s_iconst hC dX7_either2_11 rfl rfl rfl) ?_
  refine aSims_c (i := 8) (s_iconst hC dX7_either2_12 rfl rfl rfl) ?_
  refine aSims_c (i := 9) (s_iconst hC dX7_either2_13 rfl rfl rfl) ?_
  refine aSims_c (i := 10) (s_iconst hC dX7_either2_14 rfl rfl rfl) ?_
  refine aSims_c (i := 11) (s_iconst hC dX7_either2_15 rfl rfl rfl) ?_
  refine aSims_c (i := 12) (s_callV (n := 8) hC dX7_either2_16 rfl rfl (hE 129 _ _ _ _ rfl) (hF _ (by decide)) w_1036 w_1033 w_1035 w_38 w_109 rfl (by decide +kernel)) ?_
  refine aSims_c (i := 13) (s_if_eq hC dX7_either2_19 rfl rfl rfl) ?_
  refine aSims_c (i := 14) (s_aload_n hC dX7_either2_22 rfl rfl) ?_
  refine aSims_c (i := 15) (s_callV (n := 0) hC dX7_either2_23 rfl rfl (hE 126 _ _ _ _ rfl) (hF _ (by decide)) w_1024 w_1021 w_1023 w_36 w_109 rfl (by decide +kernel)) ?_
  refine aSims_c (i := 16) (s_aload_n hC dX7_either2_26 rfl rfl) ?_
  refine aSims_c (i := 17) (s_callV (n := 0) hC dX7_either2_27 rfl rfl (hE 155 _ _ _ _ rfl) (hF _ (by decide)) w_1186 w_1183 w_1185 w_75 w_109 rfl (by decide +kernel)) ?_
  refine aSims_c (i := 18) (s_istore_n hC dX7_either2_30 rfl rfl) ?_
  refine aSims_c (i := 19) (s_iload_n hC dX7_either2_31 rfl rfl) ?_
  refine aSims_c (i := 20) (s_if_ne hC dX7_either2_32 rfl rfl rfl) ?_
  refine aSims_c (i := 21) (s_iload_n hC dX7_either2_35 rfl rfl) ?_
  refine aSims_c (i := 22) (s_if_eq hC dX7_either2_36 rfl rfl rfl) ?_
  refine aSims_c (i := 23) (s_iconst hC dX7_either2_39 rfl rfl rfl) ?_
  refine aSims_c (i := 24) (s_goto hC dX7_either2_40 rfl rfl) ?_
  refine aSims_c (i := 25) (s_iconst hC dX7_either2_43 rfl rfl rfl) ?_
  refine aSims_c (i := 26) (s_istore_n hC dX7_either2_44 rfl rfl) ?_
  refine aSims_c (i := 27) (s_goto hC dX7_either2_45 rfl rfl) ?_
  refine aSims_c (i := 28) (s_iload_n hC dX7_either2_48 rfl rfl) ?_
  refine aSims_c (i := 29) (s_iret hC dX7_either2_49 rfl hr hlk nar_qI) ?_
  exact aSims_n
set_option maxHeartbeats 4000000 in
set_option maxRecDepth 20000 in
theorem sm_X7_atom1 (hC : aC p s m args c cX7_atom1 2 RX7 D cA ad bs n0 H0 X) (hF : ∀ ml, ml ≤ 41 → aFit R d ml) (hRm : 16 ≤ R.frames ∧ 1000 ≤ R.locals) (hE : aCalls l D cA ad bs X d E) (hr : meth.sig.returnType = (some .int)) (hlk : meth.locks = false) : aSims (fun f i => aSim p l e R s m args below meth c (aEnd below s args D cA ad bs n0 z0 rv hf) 2 D cA ad bs n0 z0 H0 (apc pc_X7_atom1) rv hf E f i) (cd_X7_atom1) 0 := by
  unfold cd_X7_atom1
  refine aSims_c (i := 0) (s_iconst hC dX7_atom1_0 rfl rfl rfl) ?_
  refine aSims_c (i := 1) (s_istore_n hC dX7_atom1_1 rfl rfl) ?_
  refine aSims_c (i := 2) (s_aload_n hC dX7_atom1_2 rfl rfl) ?_
  refine aSims_c (i := 3) (s_bipush hC dX7_atom1_3 rfl rfl rfl) ?_
  refine aSims_c (i := 4) (s_callV (n := 1) hC dX7_atom1_5 rfl rfl (hE 130 _ _ _ _ rfl) (hF _ (by decide)) w_1100 w_1097 w_1099 w_54 w_109 rfl (by decide +kernel)) ?_
  refine aSims_c (i := 5) (s_if_eq hC dX7_atom1_8 rfl rfl rfl) ?_
  refine aSims_c (i := 6) (s_aload_n hC dX7_atom1_11 rfl rfl) ?_
  refine aSims_c (i := 7) (s_callV (n := 0) hC dX7_atom1_12 rfl rfl (hE 131 _ _ _ _ rfl) (hF _ (by decide)) w_1064 w_1061 w_1063 w_45 w_109 rfl (by decide +kernel)) ?_
  refine aSims_c (i := 8) (s_if_eq hC dX7_atom1_15 rfl rfl rfl) ?_
  refine aSims_c (i := 9) (s_aload_n hC dX7_atom1_18 rfl rfl) ?_
  refine aSims_c (i := 10) (s_callV (n := 0) hC dX7_atom1_19 rfl rfl (hE 151 _ _ _ _ rfl) (hF _ (by decide)) w_1158 w_1155 w_1157 w_68 w_109 rfl (by decide +kernel)) ?_
  refine aSims_c (i := 11) (s_ineg hC dX7_atom1_22 rfl rfl) ?_
  refine aSims_c (i := 12) (s_istore_n hC dX7_atom1_23 rfl rfl) ?_
  refine aSims_c (i := 13) (s_aload_n hC dX7_atom1_24 rfl rfl) ?_
  refine aSims_c (i := 14) (s_dup hC dX7_atom1_25 rfl rfl) ?_
  refine aSims_c (i := 15) (s_get hC dX7_atom1_26 rfl rfl w_867 rfl rfl inB7 (by decide)) ?_
  refine aSims_c (i := 16) (s_iconst hC dX7_atom1_29 rfl rfl rfl) ?_
  refine aSims_c (i := 17) (s_isub hC dX7_atom1_30 rfl rfl) ?_
  refine aSims_c (i := 18) (s_put hC dX7_atom1_31 rfl rfl w_867 rfl rfl inB7 tyX7_ok nmX7 (by decide) rfl) ?_
  refine aSims_c (i := 19) (s_goto hC dX7_atom1_34 rfl rfl) ?_
  refine aSims_c (i := 20) (s_aload_n hC dX7_atom1_37 rfl rfl) ?_
  refine aSims_c (i := 21) (s_bipush hC dX7_atom1_38 rfl rfl rfl) ?_
  refine aSims_c (i := 22) (s_callV (n := 1) hC dX7_atom1_40 rfl rfl (hE 130 _ _ _ _ rfl) (hF _ (by decide)) w_1100 w_1097 w_1099 w_54 w_109 rfl (by decide +kernel)) ?_
  refine aSims_c (i := 23) (s_if_eq hC dX7_atom1_43 rfl rfl rfl) ?_
  refine aSims_c (i := 24) (s_aload_n hC dX7_atom1_46 rfl rfl) ?_
  refine aSims_c (i := 25) (s_callV (n := 0) hC dX7_atom1_47 rfl rfl (hE 131 _ _ _ _ rfl) (hF _ (by decide)) w_1064 w_1061 w_1063 w_45 w_109 rfl (by decide +kernel)) ?_
  refine aSims_c (i := 26) (s_if_eq hC dX7_atom1_50 rfl rfl rfl) ?_
  refine aSims_c (i := 27) (s_aload_n hC dX7_atom1_53 rfl rfl) ?_
  refine aSims_c (i := 28) (s_callV (n := 0) hC dX7_atom1_54 rfl rfl (hE 156 _ _ _ _ rfl) (hF _ (by decide)) w_1182 w_1179 w_1181 w_74 w_109 rfl (by decide +kernel)) ?_
  refine aSims_c (i := 29) (s_istore_n hC dX7_atom1_57 rfl rfl) ?_
  refine aSims_c (i := 30) (s_aload_n hC dX7_atom1_58 rfl rfl) ?_
  refine aSims_c (i := 31) (s_bipush hC dX7_atom1_59 rfl rfl rfl) ?_
  refine aSims_c (i := 32) (s_callV (n := 1) hC dX7_atom1_61 rfl rfl (hE 130 _ _ _ _ rfl) (hF _ (by decide)) w_1100 w_1097 w_1099 w_54 w_109 rfl (by decide +kernel)) ?_
  refine aSims_c (i := 33) (s_if_ne hC dX7_atom1_64 rfl rfl rfl) ?_
  refine aSims_c (i := 34) (s_aload_n hC dX7_atom1_67 rfl rfl) ?_
  refine aSims_c (i := 35) (s_callV (n := 0) hC dX7_atom1_68 rfl rfl (hE 127 _ _ _ _ rfl) (hF _ (by decide)) w_1048 w_1045 w_1047 w_41 w_109 rfl (by decide +kernel)) ?_
  refine aSims_c (i := 36) (s_aload_n hC dX7_atom1_71 rfl rfl) ?_
  refine aSims_c (i := 37) (s_dup hC dX7_atom1_72 rfl rfl) ?_
  refine aSims_c (i := 38) (s_get hC dX7_atom1_73 rfl rfl w_867 rfl rfl inB7 (by decide)) ?_
  refine aSims_c (i := 39) (s_iconst hC dX7_atom1_76 rfl rfl rfl) ?_
  refine aSims_c (i := 40) (s_isub hC dX7_atom1_77 rfl rfl) ?_
  refine aSims_c (i := 41) (s_put hC dX7_atom1_78 rfl rfl w_867 rfl rfl inB7 tyX7_ok nmX7 (by decide) rfl) ?_
  refine aSims_c (i := 42) (s_aload_n hC dX7_atom1_81 rfl rfl) ?_
  refine aSims_c (i := 43) (s_get hC dX7_atom1_82 rfl rfl w_868 rfl rfl inB7 (by decide)) ?_
  refine aSims_c (i := 44) (s_if_ne hC dX7_atom1_85 rfl rfl rfl) ?_
  refine aSims_c (i := 45) (s_aload_n hC dX7_atom1_88 rfl rfl) ?_
  refine aSims_c (i := 46) (s_callV (n := 0) hC dX7_atom1_89 rfl rfl (hE 126 _ _ _ _ rfl) (hF _ (by decide)) w_1024 w_1021 w_1023 w_36 w_109 rfl (by decide +kernel)) ?_
  refine aSims_c (i := 47) (s_goto hC dX7_atom1_92 rfl rfl) ?_
  refine aSims_c (i := 48) (s_aload_n hC dX7_atom1_95 rfl rfl) ?_
  refine aSims_c (i := 49) (s_get hC dX7_atom1_96 rfl rfl w_868 rfl rfl inB7 (by decide)) ?_
  refine aSims_c (i := 50) (s_if_ne hC dX7_atom1_99 rfl rfl rfl) ?_
  refine aSims_c (i := 51) (s_aload_n hC dX7_atom1_102 rfl rfl) ?_
  refine aSims_c (i := 52) (s_get hC dX7_atom1_103 rfl rfl w_864 rfl rfl inB7 (by decide)) ?_
  refine aSims_c (i := 53) (s_iconst hC dX7_atom1_106 rfl rfl rfl) ?_
  refine aSims_c (i := 54) (s_icmp_ne hC dX7_atom1_107 rfl rfl rfl) ?_
  refine aSims_c (i := 55) (s_aload_n hC dX7_atom1_110 rfl rfl) ?_
  refine aSims_c (i := 56) (s_get hC dX7_atom1_111 rfl rfl w_866 rfl rfl inB7 (by decide)) ?_
  refine aSims_c (i := 57) (s_l2i hC dX7_atom1_114 rfl rfl) ?_
  refine aSims_c (i := 58) (s_istore_n hC dX7_atom1_115 rfl rfl) ?_
  refine aSims_c (i := 59) (s_aload_n hC dX7_atom1_116 rfl rfl) ?_
  refine aSims_c (i := 60) (s_callV (n := 0) hC dX7_atom1_117 rfl rfl (hE 126 _ _ _ _ rfl) (hF _ (by decide)) w_1024 w_1021 w_1023 w_36 w_109 rfl (by decide +kernel)) ?_
  refine aSims_c (i := 61) (s_goto hC dX7_atom1_120 rfl rfl) ?_
  refine aSims_c (i := 62) (s_aload_n hC dX7_atom1_123 rfl rfl) ?_
  refine aSims_c (i := 63) (s_get hC dX7_atom1_124 rfl rfl w_868 rfl rfl inB7 (by decide)) ?_
  refine aSims_c (i := 64) (s_if_ne hC dX7_atom1_127 rfl rfl rfl) ?_
  refine aSims_c (i := 65) (s_aload_n hC dX7_atom1_130 rfl rfl) ?_
  refine aSims_c (i := 66) (s_get hC dX7_atom1_131 rfl rfl w_864 rfl rfl inB7 (by decide)) ?_
  refine aSims_c (i := 67) (s_iconst hC dX7_atom1_134 rfl rfl rfl) ?_
  refine aSims_c (i := 68) (s_icmp_ne hC dX7_atom1_135 rfl rfl rfl) ?_
  refine aSims_c (i := 69) (s_aload_n hC dX7_atom1_138 rfl rfl) ?_
  refine aSims_c (i := 70) (s_callV (n := 0) hC dX7_atom1_139 rfl rfl (hE 132 _ _ _ _ rfl) (hF _ (by decide)) w_1104 w_1101 w_1103 w_55 w_109 rfl (by decide +kernel)) ?_
  refine aSims_c (i := 71) (s_istore_n hC dX7_atom1_142 rfl rfl) ?_
  refine aSims_c (i := 72) (s_aload_n hC dX7_atom1_143 rfl rfl) ?_
  refine aSims_c (i := 73) (s_get hC dX7_atom1_144 rfl rfl w_868 rfl rfl inB7 (by decide)) ?_
  refine aSims_c (i := 74) (s_if_ne hC dX7_atom1_147 rfl rfl rfl) ?_
  refine aSims_c (i := 75) (s_aload_n hC dX7_atom1_150 rfl rfl) ?_
  refine aSims_c (i := 76) (s_callV (n := 0) hC dX7_atom1_151 rfl rfl (hE 126 _ _ _ _ rfl) (hF _ (by decide)) w_1024 w_1021 w_1023 w_36 w_109 rfl (by decide +kernel)) ?_
  refine aSims_c (i := 77) (s_goto hC dX7_atom1_154 rfl rfl) ?_
  refine aSims_c (i := 78) (s_aload_n hC dX7_atom1_157 rfl rfl) ?_
  refine aSims_c (i := 79) (s_callV (n := 0) hC dX7_atom1_158 rfl rfl (hE 127 _ _ _ _ rfl) (hF _ (by decide)) w_1048 w_1045 w_1047 w_41 w_109 rfl (by decide +kernel)) ?_
  refine aSims_c (i := 80) (s_iload_n hC dX7_atom1_161 rfl rfl) ?_
  refine aSims_c (i := 81) (s_iret hC dX7_atom1_162 rfl hr hlk nar_qI) ?_
  exact aSims_n
set_option maxHeartbeats 4000000 in
set_option maxRecDepth 20000 in
theorem sm_X7_term1 (hC : aC p s m args c cX7_term1 2 RX7 D cA ad bs n0 H0 X) (hF : ∀ ml, ml ≤ 41 → aFit R d ml) (hRm : 16 ≤ R.frames ∧ 1000 ≤ R.locals) (hE : aCalls l D cA ad bs X d E) (hr : meth.sig.returnType = (some .int)) (hlk : meth.locks = false) : aSims (fun f i => aSim p l e R s m args below meth c (aEnd below s args D cA ad bs n0 z0 rv hf) 2 D cA ad bs n0 z0 H0 (apc pc_X7_term1) rv hf E f i) (cd_X7_term1) 0 := by
  unfold cd_X7_term1
  refine aSims_c (i := 0) (s_aload_n hC dX7_term1_0 rfl rfl) ?_
  refine aSims_c (i := 1) (s_callV (n := 0) hC dX7_term1_1 rfl rfl (hE 157 _ _ _ _ rfl) (hF _ (by decide)) w_1178 w_1175 w_1177 w_73 w_109 rfl (by decide +kernel)) ?_
  refine aSims_c (i := 2) (s_istore_n hC dX7_term1_4 rfl rfl) ?_
  refine aSims_c (i := 3) (s_aload_n hC dX7_term1_5 rfl rfl) ?_
  refine aSims_c (i := 4) (s_bipush hC dX7_term1_6 rfl rfl rfl) ?_
  refine aSims_c (i := 5) (s_callV (n := 1) hC dX7_term1_8 rfl rfl (hE 130 _ _ _ _ rfl) (hF _ (by decide)) w_1100 w_1097 w_1099 w_54 w_109 rfl (by decide +kernel)) ?_
  refine aSims_c (i := 6) (s_if_eq hC dX7_term1_11 rfl rfl rfl) ?_
  refine aSims_c (i := 7) (s_aload_n hC dX7_term1_14 rfl rfl) ?_
  refine aSims_c (i := 8) (s_callV (n := 0) hC dX7_term1_15 rfl rfl (hE 126 _ _ _ _ rfl) (hF _ (by decide)) w_1024 w_1021 w_1023 w_36 w_109 rfl (by decide +kernel)) ?_
  refine aSims_c (i := 9) (s_iload_n hC dX7_term1_18 rfl rfl) ?_
  refine aSims_c (i := 10) (s_aload_n hC dX7_term1_19 rfl rfl) ?_
  refine aSims_c (i := 11) (s_callV (n := 0) hC dX7_term1_20 rfl rfl (hE 157 _ _ _ _ rfl) (hF _ (by decide)) w_1178 w_1175 w_1177 w_73 w_109 rfl (by decide +kernel)) ?_
  refine aSims_c (i := 12) (s_imul hC dX7_term1_23 rfl rfl) ?_
  refine aSims_c (i := 13) (s_istore_n hC dX7_term1_24 rfl rfl) ?_
  refine aSims_c (i := 14) (s_goto hC dX7_term1_25 rfl rfl) ?_
  refine aSims_c (i := 15) (s_iload_n hC dX7_term1_28 rfl rfl) ?_
  refine aSims_c (i := 16) (s_iret hC dX7_term1_29 rfl hr hlk nar_qI) ?_
  exact aSims_n
set_option maxHeartbeats 4000000 in
set_option maxRecDepth 20000 in
theorem sm_X7_added1 (hC : aC p s m args c cX7_added1 4 RX7 D cA ad bs n0 H0 X) (hF : ∀ ml, ml ≤ 41 → aFit R d ml) (hRm : 16 ≤ R.frames ∧ 1000 ≤ R.locals) (hE : aCalls l D cA ad bs X d E) (hr : meth.sig.returnType = (some .int)) (hlk : meth.locks = false) : aSims (fun f i => aSim p l e R s m args below meth c (aEnd below s args D cA ad bs n0 z0 rv hf) 4 D cA ad bs n0 z0 H0 (apc pc_X7_added1) rv hf E f i) (cd_X7_added1) 0 := by
  unfold cd_X7_added1
  refine aSims_c (i := 0) (s_aload_n hC dX7_added1_0 rfl rfl) ?_
  refine aSims_c (i := 1) (s_callV (n := 0) hC dX7_added1_1 rfl rfl (hE 158 _ _ _ _ rfl) (hF _ (by decide)) w_1174 w_1171 w_1173 w_72 w_109 rfl (by decide +kernel)) ?_
  refine aSims_c (i := 2) (s_istore_n hC dX7_added1_4 rfl rfl) ?_
  refine aSims_c (i := 3) (s_aload_n hC dX7_added1_5 rfl rfl) ?_
  refine aSims_c (i := 4) (s_bipush hC dX7_added1_6 rfl rfl rfl) ?_
  refine aSims_c (i := 5) (s_callV (n := 1) hC dX7_added1_8 rfl rfl (hE 130 _ _ _ _ rfl) (hF _ (by decide)) w_1100 w_1097 w_1099 w_54 w_109 rfl (by decide +kernel)) ?_
  refine aSims_c (i := 6) (s_if_ne hC dX7_added1_11 rfl rfl rfl) ?_
  refine aSims_c (i := 7) (s_aload_n hC dX7_added1_14 rfl rfl) ?_
  refine aSims_c (i := 8) (s_bipush hC dX7_added1_15 rfl rfl rfl) ?_
  refine aSims_c (i := 9) (s_callV (n := 1) hC dX7_added1_17 rfl rfl (hE 130 _ _ _ _ rfl) (hF _ (by decide)) w_1100 w_1097 w_1099 w_54 w_109 rfl (by decide +kernel)) ?_
  refine aSims_c (i := 10) (s_if_eq hC dX7_added1_20 rfl rfl rfl) ?_
  refine aSims_c (i := 11) (s_aload_n hC dX7_added1_23 rfl rfl) ?_
  refine aSims_c (i := 12) (s_get hC dX7_added1_24 rfl rfl w_866 rfl rfl inB7 (by decide)) ?_
  refine aSims_c (i := 13) (s_ldc2 hC dX7_added1_27 w_1105 rfl rfl) ?_
  refine aSims_c (i := 14) (s_lcmp hC dX7_added1_30 rfl rfl) ?_
  refine aSims_c (i := 15) (s_if_ne hC dX7_added1_31 rfl rfl rfl) ?_
  refine aSims_c (i := 16) (s_iconst hC dX7_added1_34 rfl rfl rfl) ?_
  refine aSims_c (i := 17) (s_goto hC dX7_added1_35 rfl rfl) ?_
  refine aSims_c (i := 18) (s_iconst hC dX7_added1_38 rfl rfl rfl) ?_
  refine aSims_c (i := 19) (s_istore_n hC dX7_added1_39 rfl rfl) ?_
  refine aSims_c (i := 20) (s_aload_n hC dX7_added1_40 rfl rfl) ?_
  refine aSims_c (i := 21) (s_callV (n := 0) hC dX7_added1_41 rfl rfl (hE 126 _ _ _ _ rfl) (hF _ (by decide)) w_1024 w_1021 w_1023 w_36 w_109 rfl (by decide +kernel)) ?_
  refine aSims_c (i := 22) (s_aload_n hC dX7_added1_44 rfl rfl) ?_
  refine aSims_c (i := 23) (s_callV (n := 0) hC dX7_added1_45 rfl rfl (hE 158 _ _ _ _ rfl) (hF _ (by decide)) w_1174 w_1171 w_1173 w_72 w_109 rfl (by decide +kernel)) ?_
  refine aSims_c (i := 24) (s_istore_n hC dX7_added1_48 rfl rfl) ?_
  refine aSims_c (i := 25) (s_iload_n hC dX7_added1_49 rfl rfl) ?_
  refine aSims_c (i := 26) (s_if_eq hC dX7_added1_50 rfl rfl rfl) ?_
  refine aSims_c (i := 27) (s_iload_n hC dX7_added1_53 rfl rfl) ?_
  refine aSims_c (i := 28) (s_iload_n hC dX7_added1_54 rfl rfl) ?_
  refine aSims_c (i := 29) (s_iadd hC dX7_added1_55 rfl rfl) ?_
  refine aSims_c (i := 30) (s_goto hC dX7_added1_56 rfl rfl) ?_
  refine aSims_c (i := 31) (s_iload_n hC dX7_added1_59 rfl rfl) ?_
  refine aSims_c (i := 32) (s_iload_n hC dX7_added1_60 rfl rfl) ?_
  refine aSims_c (i := 33) (s_isub hC dX7_added1_61 rfl rfl) ?_
  refine aSims_c (i := 34) (s_istore_n hC dX7_added1_62 rfl rfl) ?_
  refine aSims_c (i := 35) (s_goto hC dX7_added1_63 rfl rfl) ?_
  refine aSims_c (i := 36) (s_iload_n hC dX7_added1_66 rfl rfl) ?_
  refine aSims_c (i := 37) (s_iret hC dX7_added1_67 rfl hr hlk nar_qI) ?_
  exact aSims_n
set_option maxHeartbeats 4000000 in
set_option maxRecDepth 20000 in
theorem sm_X7_not1 (hC : aC p s m args c cX7_not1 4 RX7 D cA ad bs n0 H0 X) (hF : ∀ ml, ml ≤ 41 → aFit R d ml) (hRm : 16 ≤ R.frames ∧ 1000 ≤ R.locals) (hE : aCalls l D cA ad bs X d E) (hr : meth.sig.returnType = (some .int)) (hlk : meth.locks = false) : aSims (fun f i => aSim p l e R s m args below meth c (aEnd below s args D cA ad bs n0 z0 rv hf) 4 D cA ad bs n0 z0 H0 (apc pc_X7_not1) rv hf E f i) (cd_X7_not1) 0 := by
  unfold cd_X7_not1
  refine aSims_c (i := 0) (s_aload_n hC dX7_not1_0 rfl rfl) ?_
  refine aSims_c (i := 1) (s_bipush hC dX7_not1_1 rfl rfl rfl) ?_
  refine aSims_c (i := 2) (s_bipush hC dX7_not1_3 rfl rfl rfl) ?_
  refine aSims_c (i := 3) (s_bipush hC dX7_not1_5 rfl rfl rfl) ?_
  refine aSims_c (i := 4) (s_iconst hC dX7_not1_7 rfl rfl rfl) ?_
  refine aSims_c (i := 5) (s_iconst hC dX7_not1_8 rfl rfl rfl) ?_
  refine aSims_c (i := 6) (s_iconst hC dX7_not1_9 rfl rfl rfl) ?_
  refine aSims_c (i := 7) (s_iconst hC dX7_not1_10 rfl rfl rfl) ?_
  refine aSims_c (i := 8) (s_iconst hC dX7_not1_11 rfl rfl rfl) ?_
  refine aSims_c (i := 9) (s_callV (n := 8) hC dX7_not1_12 rfl rfl (hE 129 _ _ _ _ rfl) (hF _ (by decide)) w_1036 w_1033 w_1035 w_38 w_109 rfl (by decide +kernel)) ?_
  refine aSims_c (i := 10) (s_if_eq hC dX7_not1_15 rfl rfl rfl) ?_
  refine aSims_c (i := 11) (s_aload_n hC dX7_not1_18 rfl rfl) ?_
  refine aSims_c (i := 12) (s_callV (n := 0) hC dX7_not1_19 rfl rfl (hE 131 _ _ _ _ rfl) (hF _ (by decide)) w_1064 w_1061 w_1063 w_45 w_109 rfl (by decide +kernel)) ?_
  refine aSims_c (i := 13) (s_if_ne hC dX7_not1_22 rfl rfl rfl) ?_
  refine aSims_c (i := 14) (s_iconst hC dX7_not1_25 rfl rfl rfl) ?_
  refine aSims_c (i := 15) (s_iret hC dX7_not1_26 rfl hr hlk nar_qI) ?_
  refine aSims_c (i := 16) (s_aload_n hC dX7_not1_27 rfl rfl) ?_
  refine aSims_c (i := 17) (s_callV (n := 0) hC dX7_not1_28 rfl rfl (hE 154 _ _ _ _ rfl) (hF _ (by decide)) w_1072 w_1069 w_1071 w_47 w_109 rfl (by decide +kernel)) ?_
  refine aSims_c (i := 18) (s_istore_n hC dX7_not1_31 rfl rfl) ?_
  refine aSims_c (i := 19) (s_aload_n hC dX7_not1_32 rfl rfl) ?_
  refine aSims_c (i := 20) (s_dup hC dX7_not1_33 rfl rfl) ?_
  refine aSims_c (i := 21) (s_get hC dX7_not1_34 rfl rfl w_867 rfl rfl inB7 (by decide)) ?_
  refine aSims_c (i := 22) (s_iconst hC dX7_not1_37 rfl rfl rfl) ?_
  refine aSims_c (i := 23) (s_isub hC dX7_not1_38 rfl rfl) ?_
  refine aSims_c (i := 24) (s_put hC dX7_not1_39 rfl rfl w_867 rfl rfl inB7 tyX7_ok nmX7 (by decide) rfl) ?_
  refine aSims_c (i := 25) (s_iload_n hC dX7_not1_42 rfl rfl) ?_
  refine aSims_c (i := 26) (s_if_ne hC dX7_not1_43 rfl rfl rfl) ?_
  refine aSims_c (i := 27) (s_iconst hC dX7_not1_46 rfl rfl rfl) ?_
  refine aSims_c (i := 28) (s_goto hC dX7_not1_47 rfl rfl) ?_
  refine aSims_c (i := 29) (s_iconst hC dX7_not1_50 rfl rfl rfl) ?_
  refine aSims_c (i := 30) (s_iret hC dX7_not1_51 rfl hr hlk nar_qI) ?_
  refine aSims_c (i := 31) (s_aload_n hC dX7_not1_52 rfl rfl) ?_
  refine aSims_c (i := 32) (s_callV (n := 0) hC dX7_not1_53 rfl rfl (hE 159 _ _ _ _ rfl) (hF _ (by decide)) w_1170 w_1167 w_1169 w_71 w_109 rfl (by decide +kernel)) ?_
  refine aSims_c (i := 33) (s_istore_n hC dX7_not1_56 rfl rfl) ?_
  refine aSims_c (i := 34) (s_aload_n hC dX7_not1_57 rfl rfl) ?_
  refine aSims_c (i := 35) (s_bipush hC dX7_not1_58 rfl rfl rfl) ?_
  refine aSims_c (i := 36) (s_callV (n := 1) hC dX7_not1_60 rfl rfl (hE 130 _ _ _ _ rfl) (hF _ (by decide)) w_1100 w_1097 w_1099 w_54 w_109 rfl (by decide +kernel)) ?_
  refine aSims_c (i := 37) (s_if_ne hC dX7_not1_63 rfl rfl rfl) ?_
  refine aSims_c (i := 38) (s_aload_n hC dX7_not1_66 rfl rfl) ?_
  refine aSims_c (i := 39) (s_bipush hC dX7_not1_67 rfl rfl rfl) ?_
  refine aSims_c (i := 40) (s_callV (n := 1) hC dX7_not1_69 rfl rfl (hE 130 _ _ _ _ rfl) (hF _ (by decide)) w_1100 w_1097 w_1099 w_54 w_109 rfl (by decide +kernel)) ?_
  refine aSims_c (i := 41) (s_if_ne hC dX7_not1_72 rfl rfl rfl) ?_
  refine aSims_c (i := 42) (s_iload_n hC dX7_not1_75 rfl rfl) ?_
  refine aSims_c (i := 43) (s_iret hC dX7_not1_76 rfl hr hlk nar_qI) ?_
  refine aSims_c (i := 44) (s_aload_n hC dX7_not1_77 rfl rfl) ?_
  refine aSims_c (i := 45) (s_get hC dX7_not1_78 rfl rfl w_866 rfl rfl inB7 (by decide)) ?_
  refine aSims_c (i := 46) (s_ldc2 hC dX7_not1_81 w_1106 rfl rfl) ?_
  refine aSims_c (i := 47) (s_lcmp hC dX7_not1_84 rfl rfl) ?_
  refine aSims_c (i := 48) (s_if_ne hC dX7_not1_85 rfl rfl rfl) ?_
  refine aSims_c (i := 49) (s_iconst hC dX7_not1_88 rfl rfl rfl) ?_
  refine aSims_c (i := 50) (s_goto hC dX7_not1_89 rfl rfl) ?_
  refine aSims_c (i := 51) (s_iconst hC dX7_not1_92 rfl rfl rfl) ?_
  refine aSims_c (i := 52) (s_istore_n hC dX7_not1_93 rfl rfl) ?_
  refine aSims_c (i := 53) (s_aload_n hC dX7_not1_94 rfl rfl) ?_
  refine aSims_c (i := 54) (s_callV (n := 0) hC dX7_not1_95 rfl rfl (hE 126 _ _ _ _ rfl) (hF _ (by decide)) w_1024 w_1021 w_1023 w_36 w_109 rfl (by decide +kernel)) ?_
  refine aSims_c (i := 55) (s_aload_n hC dX7_not1_98 rfl rfl) ?_
  refine aSims_c (i := 56) (s_callV (n := 0) hC dX7_not1_99 rfl rfl (hE 159 _ _ _ _ rfl) (hF _ (by decide)) w_1170 w_1167 w_1169 w_71 w_109 rfl (by decide +kernel)) ?_
  refine aSims_c (i := 57) (s_istore_n hC dX7_not1_102 rfl rfl) ?_
  refine aSims_c (i := 58) (s_iload_n hC dX7_not1_103 rfl rfl) ?_
  refine aSims_c (i := 59) (s_if_eq hC dX7_not1_104 rfl rfl rfl) ?_
  refine aSims_c (i := 60) (s_iload_n hC dX7_not1_107 rfl rfl) ?_
  refine aSims_c (i := 61) (s_iload_n hC dX7_not1_108 rfl rfl) ?_
  refine aSims_c (i := 62) (s_icmp_ge hC dX7_not1_109 rfl rfl rfl) ?_
  refine aSims_c (i := 63) (s_goto hC dX7_not1_112 rfl rfl) ?_
  refine aSims_c (i := 64) (s_iload_n hC dX7_not1_115 rfl rfl) ?_
  refine aSims_c (i := 65) (s_iload_n hC dX7_not1_116 rfl rfl) ?_
  refine aSims_c (i := 66) (s_icmp_ne hC dX7_not1_117 rfl rfl rfl) ?_
  refine aSims_c (i := 67) (s_iconst hC dX7_not1_120 rfl rfl rfl) ?_
  refine aSims_c (i := 68) (s_goto hC dX7_not1_121 rfl rfl) ?_
  refine aSims_c (i := 69) (s_iconst hC dX7_not1_124 rfl rfl rfl) ?_
  refine aSims_c (i := 70) (s_iret hC dX7_not1_125 rfl hr hlk nar_qI) ?_
  exact aSims_n
set_option maxHeartbeats 4000000 in
set_option maxRecDepth 20000 in
theorem sm_X7_both1 (hC : aC p s m args c cX7_both1 3 RX7 D cA ad bs n0 H0 X) (hF : ∀ ml, ml ≤ 41 → aFit R d ml) (hRm : 16 ≤ R.frames ∧ 1000 ≤ R.locals) (hE : aCalls l D cA ad bs X d E) (hr : meth.sig.returnType = (some .int)) (hlk : meth.locks = false) : aSims (fun f i => aSim p l e R s m args below meth c (aEnd below s args D cA ad bs n0 z0 rv hf) 3 D cA ad bs n0 z0 H0 (apc pc_X7_both1) rv hf E f i) (cd_X7_both1) 0 := by
  unfold cd_X7_both1
  refine aSims_c (i := 0) (s_aload_n hC dX7_both1_0 rfl rfl) ?_
  refine aSims_c (i := 1) (s_callV (n := 0) hC dX7_both1_1 rfl rfl (hE 160 _ _ _ _ rfl) (hF _ (by decide)) w_1068 w_1065 w_1067 w_46 w_109 rfl (by decide +kernel)) ?_
  refine aSims_c (i := 2) (s_istore_n hC dX7_both1_4 rfl rfl) ?_
  refine aSims_c (i := 3) (s_aload_n hC dX7_both1_5 rfl rfl) ?_
  refine aSims_c (i := 4) (s_bipush hC dX7_both1_6 rfl rfl rfl) ?_
  refine aSims_c (i := 5) (s_bipush hC dX7_both1_8 rfl rfl rfl) ?_
  refine aSims_c (i := 6) (s_bipush hC dX7_both1_10 rfl rfl rfl) ?_
  refine aSims_c (i := 7) (s_iconst hC dX7_both1_12 rfl rfl rfl) ?_
  refine aSims_c (i := 8) (s_iconst hC dX7_both1_13 rfl rfl rfl) ?_
  refine aSims_c (i := 9) (s_iconst hC dX7_both1_14 rfl rfl rfl) ?_
  refine aSims_c (i := 10) (s_iconst hC dX7_both1_15 rfl rfl rfl) ?_
  refine aSims_c (i := 11) (s_iconst hC dX7_both1_16 rfl rfl rfl) ?_
  refine aSims_c (i := 12) (s_callV (n := 8) hC dX7_both1_17 rfl rfl (hE 129 _ _ _ _ rfl) (hF _ (by decide)) w_1036 w_1033 w_1035 w_38 w_109 rfl (by decide +kernel)) ?_
  refine aSims_c (i := 13) (s_if_eq hC dX7_both1_20 rfl rfl rfl) ?_
  refine aSims_c (i := 14) (s_aload_n hC dX7_both1_23 rfl rfl) ?_
  refine aSims_c (i := 15) (s_callV (n := 0) hC dX7_both1_24 rfl rfl (hE 126 _ _ _ _ rfl) (hF _ (by decide)) w_1024 w_1021 w_1023 w_36 w_109 rfl (by decide +kernel)) ?_
  refine aSims_c (i := 16) (s_aload_n hC dX7_both1_27 rfl rfl) ?_
  refine aSims_c (i := 17) (s_callV (n := 0) hC dX7_both1_28 rfl rfl (hE 160 _ _ _ _ rfl) (hF _ (by decide)) w_1068 w_1065 w_1067 w_46 w_109 rfl (by decide +kernel)) ?_
  refine aSims_c (i := 18) (s_istore_n hC dX7_both1_31 rfl rfl) ?_
  refine aSims_c (i := 19) (s_iload_n hC dX7_both1_32 rfl rfl) ?_
  refine aSims_c (i := 20) (s_if_eq hC dX7_both1_33 rfl rfl rfl) ?_
  refine aSims_c (i := 21) (s_iload_n hC dX7_both1_36 rfl rfl) ?_
  refine aSims_c (i := 22) (s_if_eq hC dX7_both1_37 rfl rfl rfl) ?_
  refine aSims_c (i := 23) (s_iconst hC dX7_both1_40 rfl rfl rfl) ?_
  refine aSims_c (i := 24) (s_goto hC dX7_both1_41 rfl rfl) ?_
  refine aSims_c (i := 25) (s_iconst hC dX7_both1_44 rfl rfl rfl) ?_
  refine aSims_c (i := 26) (s_istore_n hC dX7_both1_45 rfl rfl) ?_
  refine aSims_c (i := 27) (s_goto hC dX7_both1_46 rfl rfl) ?_
  refine aSims_c (i := 28) (s_iload_n hC dX7_both1_49 rfl rfl) ?_
  refine aSims_c (i := 29) (s_iret hC dX7_both1_50 rfl hr hlk nar_qI) ?_
  exact aSims_n
set_option maxHeartbeats 4000000 in
set_option maxRecDepth 20000 in
theorem sm_X7_either1 (hC : aC p s m args c cX7_either1 3 RX7 D cA ad bs n0 H0 X) (hF : ∀ ml, ml ≤ 41 → aFit R d ml) (hRm : 16 ≤ R.frames ∧ 1000 ≤ R.locals) (hE : aCalls l D cA ad bs X d E) (hr : meth.sig.returnType = (some .int)) (hlk : meth.locks = false) : aSims (fun f i => aSim p l e R s m args below meth c (aEnd below s args D cA ad bs n0 z0 rv hf) 3 D cA ad bs n0 z0 H0 (apc pc_X7_either1) rv hf E f i) (cd_X7_either1) 0 := by
  unfold cd_X7_either1
  refine aSims_c (i := 0) (s_aload_n hC dX7_either1_0 rfl rfl) ?_
  refine aSims_c (i := 1) (s_callV (n := 0) hC dX7_either1_1 rfl rfl (hE 161 _ _ _ _ rfl) (hF _ (by decide)) w_1206 w_1203 w_1205 w_80 w_109 rfl (by decide +kernel)) ?_
  refine aSims_c (i := 2) (s_istore_n hC dX7_either1_4 rfl rfl) ?_
  refine aSims_c (i := 3) (s_aload_n hC dX7_either1_5 rfl rfl) ?_
  refine aSims_c (i := 4) (s_bipush hC dX7_either1_6 rfl rfl rfl) ?_
  refine aSims_c (i := 5) (s_bipush hC dX7_either1_8 rfl rfl rfl) ?_
  refine aSims_c (i := 6) (s_iconst hC dX7_either1_10 rfl rfl rfl) ?_
  refine aSims_c (i := 7) (s_iconst hC dX7_either1_11 rfl rfl rfl) ?_
  refine aSims_c (i := 8) (s_iconst hC dX7_either1_12 rfl rfl rfl) ?_
  refine aSims_c (i := 9) (s_iconst hC dX7_either1_13 rfl rfl rfl) ?_
  refine aSims_c (i := 10) (s_iconst hC dX7_either1_14 rfl rfl rfl) ?_
  refine aSims_c (i := 11) (s_iconst hC dX7_either1_15 rfl rfl rfl) ?_
  refine aSims_c (i := 12) (s_callV (n := 8) hC dX7_either1_16 rfl rfl (hE 129 _ _ _ _ rfl) (hF _ (by decide)) w_1036 w_1033 w_1035 w_38 w_109 rfl (by decide +kernel)) ?_
  refine aSims_c (i := 13) (s_if_eq hC dX7_either1_19 rfl rfl rfl) ?_
  refine aSims_c (i := 14) (s_aload_n hC dX7_either1_22 rfl rfl) ?_
  refine aSims_c (i := 15) (s_callV (n := 0) hC dX7_either1_23 rfl rfl (hE 126 _ _ _ _ rfl) (hF _ (by decide)) w_1024 w_1021 w_1023 w_36 w_109 rfl (by decide +kernel)) ?_
  refine aSims_c (i := 16) (s_aload_n hC dX7_either1_26 rfl rfl) ?_
  refine aSims_c (i := 17) (s_callV (n := 0) hC dX7_either1_27 rfl rfl (hE 161 _ _ _ _ rfl) (hF _ (by decide)) w_1206 w_1203 w_1205 w_80 w_109 rfl (by decide +kernel)) ?_
  refine aSims_c (i := 18) (s_istore_n hC dX7_either1_30 rfl rfl) ?_
  refine aSims_c (i := 19) (s_iload_n hC dX7_either1_31 rfl rfl) ?_
  refine aSims_c (i := 20) (s_if_ne hC dX7_either1_32 rfl rfl rfl) ?_
  refine aSims_c (i := 21) (s_iload_n hC dX7_either1_35 rfl rfl) ?_
  refine aSims_c (i := 22) (s_if_eq hC dX7_either1_36 rfl rfl rfl) ?_
  refine aSims_c (i := 23) (s_iconst hC dX7_either1_39 rfl rfl rfl) ?_
  refine aSims_c (i := 24) (s_goto hC dX7_either1_40 rfl rfl) ?_
  refine aSims_c (i := 25) (s_iconst hC dX7_either1_43 rfl rfl rfl) ?_
  refine aSims_c (i := 26) (s_istore_n hC dX7_either1_44 rfl rfl) ?_
  refine aSims_c (i := 27) (s_goto hC dX7_either1_45 rfl rfl) ?_
  refine aSims_c (i := 28) (s_iload_n hC dX7_either1_48 rfl rfl) ?_
  refine aSims_c (i := 29) (s_iret hC dX7_either1_49 rfl hr hlk nar_qI) ?_
  exact aSims_n
set_option maxHeartbeats 4000000 in
set_option maxRecDepth 20000 in
theorem sm_X7_atom0 (hC : aC p s m args c cX7_atom0 2 RX7 D cA ad bs n0 H0 X) (hF : ∀ ml, ml ≤ 41 → aFit R d ml) (hRm : 16 ≤ R.frames ∧ 1000 ≤ R.locals) (hE : aCalls l D cA ad bs X d E) (hr : meth.sig.returnType = (some .int)) (hlk : meth.locks = false) : aSims (fun f i => aSim p l e R s m args below meth c (aEnd below s args D cA ad bs n0 z0 rv hf) 2 D cA ad bs n0 z0 H0 (apc pc_X7_atom0) rv hf E f i) (cd_X7_atom0) 0 := by
  unfold cd_X7_atom0
  refine aSims_c (i := 0) (s_iconst hC dX7_atom0_0 rfl rfl rfl) ?_
  refine aSims_c (i := 1) (s_istore_n hC dX7_atom0_1 rfl rfl) ?_
  refine aSims_c (i := 2) (s_aload_n hC dX7_atom0_2 rfl rfl) ?_
  refine aSims_c (i := 3) (s_bipush hC dX7_atom0_3 rfl rfl rfl) ?_
  refine aSims_c (i := 4) (s_callV (n := 1) hC dX7_atom0_5 rfl rfl (hE 130 _ _ _ _ rfl) (hF _ (by decide)) w_1100 w_1097 w_1099 w_54 w_109 rfl (by decide +kernel)) ?_
  refine aSims_c (i := 5) (s_if_eq hC dX7_atom0_8 rfl rfl rfl) ?_
  refine aSims_c (i := 6) (s_aload_n hC dX7_atom0_11 rfl rfl) ?_
  refine aSims_c (i := 7) (s_callV (n := 0) hC dX7_atom0_12 rfl rfl (hE 131 _ _ _ _ rfl) (hF _ (by decide)) w_1064 w_1061 w_1063 w_45 w_109 rfl (by decide +kernel)) ?_
  refine aSims_c (i := 8) (s_if_eq hC dX7_atom0_15 rfl rfl rfl) ?_
  refine aSims_c (i := 9) (s_aload_n hC dX7_atom0_18 rfl rfl) ?_
  refine aSims_c (i := 10) (s_callV (n := 0) hC dX7_atom0_19 rfl rfl (hE 157 _ _ _ _ rfl) (hF _ (by decide)) w_1178 w_1175 w_1177 w_73 w_109 rfl (by decide +kernel)) ?_
  refine aSims_c (i := 11) (s_ineg hC dX7_atom0_22 rfl rfl) ?_
  refine aSims_c (i := 12) (s_istore_n hC dX7_atom0_23 rfl rfl) ?_
  refine aSims_c (i := 13) (s_aload_n hC dX7_atom0_24 rfl rfl) ?_
  refine aSims_c (i := 14) (s_dup hC dX7_atom0_25 rfl rfl) ?_
  refine aSims_c (i := 15) (s_get hC dX7_atom0_26 rfl rfl w_867 rfl rfl inB7 (by decide)) ?_
  refine aSims_c (i := 16) (s_iconst hC dX7_atom0_29 rfl rfl rfl) ?_
  refine aSims_c (i := 17) (s_isub hC dX7_atom0_30 rfl rfl) ?_
  refine aSims_c (i := 18) (s_put hC dX7_atom0_31 rfl rfl w_867 rfl rfl inB7 tyX7_ok nmX7 (by decide) rfl) ?_
  refine aSims_c (i := 19) (s_goto hC dX7_atom0_34 rfl rfl) ?_
  refine aSims_c (i := 20) (s_aload_n hC dX7_atom0_37 rfl rfl) ?_
  refine aSims_c (i := 21) (s_bipush hC dX7_atom0_38 rfl rfl rfl) ?_
  refine aSims_c (i := 22) (s_callV (n := 1) hC dX7_atom0_40 rfl rfl (hE 130 _ _ _ _ rfl) (hF _ (by decide)) w_1100 w_1097 w_1099 w_54 w_109 rfl (by decide +kernel)) ?_
  refine aSims_c (i := 23) (s_if_eq hC dX7_atom0_43 rfl rfl rfl) ?_
  refine aSims_c (i := 24) (s_aload_n hC dX7_atom0_46 rfl rfl) ?_
  refine aSims_c (i := 25) (s_callV (n := 0) hC dX7_atom0_47 rfl rfl (hE 131 _ _ _ _ rfl) (hF _ (by decide)) w_1064 w_1061 w_1063 w_45 w_109 rfl (by decide +kernel)) ?_
  refine aSims_c (i := 26) (s_if_eq hC dX7_atom0_50 rfl rfl rfl) ?_
  refine aSims_c (i := 27) (s_aload_n hC dX7_atom0_53 rfl rfl) ?_
  refine aSims_c (i := 28) (s_callV (n := 0) hC dX7_atom0_54 rfl rfl (hE 162 _ _ _ _ rfl) (hF _ (by decide)) w_1202 w_1199 w_1201 w_79 w_109 rfl (by decide +kernel)) ?_
  refine aSims_c (i := 29) (s_istore_n hC dX7_atom0_57 rfl rfl) ?_
  refine aSims_c (i := 30) (s_aload_n hC dX7_atom0_58 rfl rfl) ?_
  refine aSims_c (i := 31) (s_bipush hC dX7_atom0_59 rfl rfl rfl) ?_
  refine aSims_c (i := 32) (s_callV (n := 1) hC dX7_atom0_61 rfl rfl (hE 130 _ _ _ _ rfl) (hF _ (by decide)) w_1100 w_1097 w_1099 w_54 w_109 rfl (by decide +kernel)) ?_
  refine aSims_c (i := 33) (s_if_ne hC dX7_atom0_64 rfl rfl rfl) ?_
  refine aSims_c (i := 34) (s_aload_n hC dX7_atom0_67 rfl rfl) ?_
  refine aSims_c (i := 35) (s_callV (n := 0) hC dX7_atom0_68 rfl rfl (hE 127 _ _ _ _ rfl) (hF _ (by decide)) w_1048 w_1045 w_1047 w_41 w_109 rfl (by decide +kernel)) ?_
  refine aSims_c (i := 36) (s_aload_n hC dX7_atom0_71 rfl rfl) ?_
  refine aSims_c (i := 37) (s_dup hC dX7_atom0_72 rfl rfl) ?_
  refine aSims_c (i := 38) (s_get hC dX7_atom0_73 rfl rfl w_867 rfl rfl inB7 (by decide)) ?_
  refine aSims_c (i := 39) (s_iconst hC dX7_atom0_76 rfl rfl rfl) ?_
  refine aSims_c (i := 40) (s_isub hC dX7_atom0_77 rfl rfl) ?_
  refine aSims_c (i := 41) (s_put hC dX7_atom0_78 rfl rfl w_867 rfl rfl inB7 tyX7_ok nmX7 (by decide) rfl) ?_
  refine aSims_c (i := 42) (s_aload_n hC dX7_atom0_81 rfl rfl) ?_
  refine aSims_c (i := 43) (s_get hC dX7_atom0_82 rfl rfl w_868 rfl rfl inB7 (by decide)) ?_
  refine aSims_c (i := 44) (s_if_ne hC dX7_atom0_85 rfl rfl rfl) ?_
  refine aSims_c (i := 45) (s_aload_n hC dX7_atom0_88 rfl rfl) ?_
  refine aSims_c (i := 46) (s_callV (n := 0) hC dX7_atom0_89 rfl rfl (hE 126 _ _ _ _ rfl) (hF _ (by decide)) w_1024 w_1021 w_1023 w_36 w_109 rfl (by decide +kernel)) ?_
  refine aSims_c (i := 47) (s_goto hC dX7_atom0_92 rfl rfl) ?_
  refine aSims_c (i := 48) (s_aload_n hC dX7_atom0_95 rfl rfl) ?_
  refine aSims_c (i := 49) (s_get hC dX7_atom0_96 rfl rfl w_868 rfl rfl inB7 (by decide)) ?_
  refine aSims_c (i := 50) (s_if_ne hC dX7_atom0_99 rfl rfl rfl) ?_
  refine aSims_c (i := 51) (s_aload_n hC dX7_atom0_102 rfl rfl) ?_
  refine aSims_c (i := 52) (s_get hC dX7_atom0_103 rfl rfl w_864 rfl rfl inB7 (by decide)) ?_
  refine aSims_c (i := 53) (s_iconst hC dX7_atom0_106 rfl rfl rfl) ?_
  refine aSims_c (i := 54) (s_icmp_ne hC dX7_atom0_107 rfl rfl rfl) ?_
  refine aSims_c (i := 55) (s_aload_n hC dX7_atom0_110 rfl rfl) ?_
  refine aSims_c (i := 56) (s_get hC dX7_atom0_111 rfl rfl w_866 rfl rfl inB7 (by decide)) ?_
  refine aSims_c (i := 57) (s_l2i hC dX7_atom0_114 rfl rfl) ?_
  refine aSims_c (i := 58) (s_istore_n hC dX7_atom0_115 rfl rfl) ?_
  refine aSims_c (i := 59) (s_aload_n hC dX7_atom0_116 rfl rfl) ?_
  refine aSims_c (i := 60) (s_callV (n := 0) hC dX7_atom0_117 rfl rfl (hE 126 _ _ _ _ rfl) (hF _ (by decide)) w_1024 w_1021 w_1023 w_36 w_109 rfl (by decide +kernel)) ?_
  refine aSims_c (i := 61) (s_goto hC dX7_atom0_120 rfl rfl) ?_
  refine aSims_c (i := 62) (s_aload_n hC dX7_atom0_123 rfl rfl) ?_
  refine aSims_c (i := 63) (s_get hC dX7_atom0_124 rfl rfl w_868 rfl rfl inB7 (by decide)) ?_
  refine aSims_c (i := 64) (s_if_ne hC dX7_atom0_127 rfl rfl rfl) ?_
  refine aSims_c (i := 65) (s_aload_n hC dX7_atom0_130 rfl rfl) ?_
  refine aSims_c (i := 66) (s_get hC dX7_atom0_131 rfl rfl w_864 rfl rfl inB7 (by decide)) ?_
  refine aSims_c (i := 67) (s_iconst hC dX7_atom0_134 rfl rfl rfl) ?_
  refine aSims_c (i := 68) (s_icmp_ne hC dX7_atom0_135 rfl rfl rfl) ?_
  refine aSims_c (i := 69) (s_aload_n hC dX7_atom0_138 rfl rfl) ?_
  refine aSims_c (i := 70) (s_callV (n := 0) hC dX7_atom0_139 rfl rfl (hE 132 _ _ _ _ rfl) (hF _ (by decide)) w_1104 w_1101 w_1103 w_55 w_109 rfl (by decide +kernel)) ?_
  refine aSims_c (i := 71) (s_istore_n hC dX7_atom0_142 rfl rfl) ?_
  refine aSims_c (i := 72) (s_aload_n hC dX7_atom0_143 rfl rfl) ?_
  refine aSims_c (i := 73) (s_get hC dX7_atom0_144 rfl rfl w_868 rfl rfl inB7 (by decide)) ?_
  refine aSims_c (i := 74) (s_if_ne hC dX7_atom0_147 rfl rfl rfl) ?_
  refine aSims_c (i := 75) (s_aload_n hC dX7_atom0_150 rfl rfl) ?_
  refine aSims_c (i := 76) (s_callV (n := 0) hC dX7_atom0_151 rfl rfl (hE 126 _ _ _ _ rfl) (hF _ (by decide)) w_1024 w_1021 w_1023 w_36 w_109 rfl (by decide +kernel)) ?_
  refine aSims_c (i := 77) (s_goto hC dX7_atom0_154 rfl rfl) ?_
  refine aSims_c (i := 78) (s_aload_n hC dX7_atom0_157 rfl rfl) ?_
  refine aSims_c (i := 79) (s_callV (n := 0) hC dX7_atom0_158 rfl rfl (hE 127 _ _ _ _ rfl) (hF _ (by decide)) w_1048 w_1045 w_1047 w_41 w_109 rfl (by decide +kernel)) ?_
  refine aSims_c (i := 80) (s_iload_n hC dX7_atom0_161 rfl rfl) ?_
  refine aSims_c (i := 81) (s_iret hC dX7_atom0_162 rfl hr hlk nar_qI) ?_
  exact aSims_n
set_option maxHeartbeats 4000000 in
set_option maxRecDepth 20000 in
theorem sm_X7_term0 (hC : aC p s m args c cX7_term0 2 RX7 D cA ad bs n0 H0 X) (hF : ∀ ml, ml ≤ 41 → aFit R d ml) (hRm : 16 ≤ R.frames ∧ 1000 ≤ R.locals) (hE : aCalls l D cA ad bs X d E) (hr : meth.sig.returnType = (some .int)) (hlk : meth.locks = false) : aSims (fun f i => aSim p l e R s m args below meth c (aEnd below s args D cA ad bs n0 z0 rv hf) 2 D cA ad bs n0 z0 H0 (apc pc_X7_term0) rv hf E f i) (cd_X7_term0) 0 := by
  unfold cd_X7_term0
  refine aSims_c (i := 0) (s_aload_n hC dX7_term0_0 rfl rfl) ?_
  refine aSims_c (i := 1) (s_callV (n := 0) hC dX7_term0_1 rfl rfl (hE 163 _ _ _ _ rfl) (hF _ (by decide)) w_1198 w_1195 w_1197 w_78 w_109 rfl (by decide +kernel)) ?_
  refine aSims_c (i := 2) (s_istore_n hC dX7_term0_4 rfl rfl) ?_
  refine aSims_c (i := 3) (s_aload_n hC dX7_term0_5 rfl rfl) ?_
  refine aSims_c (i := 4) (s_bipush hC dX7_term0_6 rfl rfl rfl) ?_
  refine aSims_c (i := 5) (s_callV (n := 1) hC dX7_term0_8 rfl rfl (hE 130 _ _ _ _ rfl) (hF _ (by decide)) w_1100 w_1097 w_1099 w_54 w_109 rfl (by decide +kernel)) ?_
  refine aSims_c (i := 6) (s_if_eq hC dX7_term0_11 rfl rfl rfl) ?_
  refine aSims_c (i := 7) (s_aload_n hC dX7_term0_14 rfl rfl) ?_
  refine aSims_c (i := 8) (s_callV (n := 0) hC dX7_term0_15 rfl rfl (hE 126 _ _ _ _ rfl) (hF _ (by decide)) w_1024 w_1021 w_1023 w_36 w_109 rfl (by decide +kernel)) ?_
  refine aSims_c (i := 9) (s_iload_n hC dX7_term0_18 rfl rfl) ?_
  refine aSims_c (i := 10) (s_aload_n hC dX7_term0_19 rfl rfl) ?_
  refine aSims_c (i := 11) (s_callV (n := 0) hC dX7_term0_20 rfl rfl (hE 163 _ _ _ _ rfl) (hF _ (by decide)) w_1198 w_1195 w_1197 w_78 w_109 rfl (by decide +kernel)) ?_
  refine aSims_c (i := 12) (s_imul hC dX7_term0_23 rfl rfl) ?_
  refine aSims_c (i := 13) (s_istore_n hC dX7_term0_24 rfl rfl) ?_
  refine aSims_c (i := 14) (s_goto hC dX7_term0_25 rfl rfl) ?_
  refine aSims_c (i := 15) (s_iload_n hC dX7_term0_28 rfl rfl) ?_
  refine aSims_c (i := 16) (s_iret hC dX7_term0_29 rfl hr hlk nar_qI) ?_
  exact aSims_n
set_option maxHeartbeats 4000000 in
set_option maxRecDepth 20000 in
theorem sm_X7_added0 (hC : aC p s m args c cX7_added0 4 RX7 D cA ad bs n0 H0 X) (hF : ∀ ml, ml ≤ 41 → aFit R d ml) (hRm : 16 ≤ R.frames ∧ 1000 ≤ R.locals) (hE : aCalls l D cA ad bs X d E) (hr : meth.sig.returnType = (some .int)) (hlk : meth.locks = false) : aSims (fun f i => aSim p l e R s m args below meth c (aEnd below s args D cA ad bs n0 z0 rv hf) 4 D cA ad bs n0 z0 H0 (apc pc_X7_added0) rv hf E f i) (cd_X7_added0) 0 := by
  unfold cd_X7_added0
  refine aSims_c (i := 0) (s_aload_n hC dX7_added0_0 rfl rfl) ?_
  refine aSims_c (i := 1) (s_callV (n := 0) hC dX7_added0_1 rfl rfl (hE 164 _ _ _ _ rfl) (hF _ (by decide)) w_1194 w_1191 w_1193 w_77 w_109 rfl (by decide +kernel)) ?_
  refine aSims_c (i := 2) (s_istore_n hC dX7_added0_4 rfl rfl) ?_
  refine aSims_c (i := 3) (s_aload_n hC dX7_added0_5 rfl rfl) ?_
  refine aSims_c (i := 4) (s_bipush hC dX7_added0_6 rfl rfl rfl) ?_
  refine aSims_c (i := 5) (s_callV (n := 1) hC dX7_added0_8 rfl rfl (hE 130 _ _ _ _ rfl) (hF _ (by decide)) w_1100 w_1097 w_1099 w_54 w_109 rfl (by decide +kernel)) ?_
  refine aSims_c (i := 6) (s_if_ne hC dX7_added0_11 rfl rfl rfl) ?_
  refine aSims_c (i := 7) (s_aload_n hC dX7_added0_14 rfl rfl) ?_
  refine aSims_c (i := 8) (s_bipush hC dX7_added0_15 rfl rfl rfl) ?_
  refine aSims_c (i := 9) (s_callV (n := 1) hC dX7_added0_17 rfl rfl (hE 130 _ _ _ _ rfl) (hF _ (by decide)) w_1100 w_1097 w_1099 w_54 w_109 rfl (by decide +kernel)) ?_
  refine aSims_c (i := 10) (s_if_eq hC dX7_added0_20 rfl rfl rfl) ?_
  refine aSims_c (i := 11) (s_aload_n hC dX7_added0_23 rfl rfl) ?_
  refine aSims_c (i := 12) (s_get hC dX7_added0_24 rfl rfl w_866 rfl rfl inB7 (by decide)) ?_
  refine aSims_c (i := 13) (s_ldc2 hC dX7_added0_27 w_1105 rfl rfl) ?_
  refine aSims_c (i := 14) (s_lcmp hC dX7_added0_30 rfl rfl) ?_
  refine aSims_c (i := 15) (s_if_ne hC dX7_added0_31 rfl rfl rfl) ?_
  refine aSims_c (i := 16) (s_iconst hC dX7_added0_34 rfl rfl rfl) ?_
  refine aSims_c (i := 17) (s_goto hC dX7_added0_35 rfl rfl) ?_
  refine aSims_c (i := 18) (s_iconst hC dX7_added0_38 rfl rfl rfl) ?_
  refine aSims_c (i := 19) (s_istore_n hC dX7_added0_39 rfl rfl) ?_
  refine aSims_c (i := 20) (s_aload_n hC dX7_added0_40 rfl rfl) ?_
  refine aSims_c (i := 21) (s_callV (n := 0) hC dX7_added0_41 rfl rfl (hE 126 _ _ _ _ rfl) (hF _ (by decide)) w_1024 w_1021 w_1023 w_36 w_109 rfl (by decide +kernel)) ?_
  refine aSims_c (i := 22) (s_aload_n hC dX7_added0_44 rfl rfl) ?_
  refine aSims_c (i := 23) (s_callV (n := 0) hC dX7_added0_45 rfl rfl (hE 164 _ _ _ _ rfl) (hF _ (by decide)) w_1194 w_1191 w_1193 w_77 w_109 rfl (by decide +kernel)) ?_
  refine aSims_c (i := 24) (s_istore_n hC dX7_added0_48 rfl rfl) ?_
  refine aSims_c (i := 25) (s_iload_n hC dX7_added0_49 rfl rfl) ?_
  refine aSims_c (i := 26) (s_if_eq hC dX7_added0_50 rfl rfl rfl) ?_
  refine aSims_c (i := 27) (s_iload_n hC dX7_added0_53 rfl rfl) ?_
  refine aSims_c (i := 28) (s_iload_n hC dX7_added0_54 rfl rfl) ?_
  refine aSims_c (i := 29) (s_iadd hC dX7_added0_55 rfl rfl) ?_
  refine aSims_c (i := 30) (s_goto hC dX7_added0_56 rfl rfl) ?_
  refine aSims_c (i := 31) (s_iload_n hC dX7_added0_59 rfl rfl) ?_
  refine aSims_c (i := 32) (s_iload_n hC dX7_added0_60 rfl rfl) ?_
  refine aSims_c (i := 33) (s_isub hC dX7_added0_61 rfl rfl) ?_
  refine aSims_c (i := 34) (s_istore_n hC dX7_added0_62 rfl rfl) ?_
  refine aSims_c (i := 35) (s_goto hC dX7_added0_63 rfl rfl) ?_
  refine aSims_c (i := 36) (s_iload_n hC dX7_added0_66 rfl rfl) ?_
  refine aSims_c (i := 37) (s_iret hC dX7_added0_67 rfl hr hlk nar_qI) ?_
  exact aSims_n
set_option maxHeartbeats 4000000 in
set_option maxRecDepth 20000 in
theorem sm_X7_not0 (hC : aC p s m args c cX7_not0 4 RX7 D cA ad bs n0 H0 X) (hF : ∀ ml, ml ≤ 41 → aFit R d ml) (hRm : 16 ≤ R.frames ∧ 1000 ≤ R.locals) (hE : aCalls l D cA ad bs X d E) (hr : meth.sig.returnType = (some .int)) (hlk : meth.locks = false) : aSims (fun f i => aSim p l e R s m args below meth c (aEnd below s args D cA ad bs n0 z0 rv hf) 4 D cA ad bs n0 z0 H0 (apc pc_X7_not0) rv hf E f i) (cd_X7_not0) 0 := by
  unfold cd_X7_not0
  refine aSims_c (i := 0) (s_aload_n hC dX7_not0_0 rfl rfl) ?_
  refine aSims_c (i := 1) (s_bipush hC dX7_not0_1 rfl rfl rfl) ?_
  refine aSims_c (i := 2) (s_bipush hC dX7_not0_3 rfl rfl rfl) ?_
  refine aSims_c (i := 3) (s_bipush hC dX7_not0_5 rfl rfl rfl) ?_
  refine aSims_c (i := 4) (s_iconst hC dX7_not0_7 rfl rfl rfl) ?_
  refine aSims_c (i := 5) (s_iconst hC dX7_not0_8 rfl rfl rfl) ?_
  refine aSims_c (i := 6) (s_iconst hC dX7_not0_9 rfl rfl rfl) ?_
  refine aSims_c (i := 7) (s_iconst hC dX7_not0_10 rfl rfl rfl) ?_
  refine aSims_c (i := 8) (s_iconst hC dX7_not0_11 rfl rfl rfl) ?_
  refine aSims_c (i := 9) (s_callV (n := 8) hC dX7_not0_12 rfl rfl (hE 129 _ _ _ _ rfl) (hF _ (by decide)) w_1036 w_1033 w_1035 w_38 w_109 rfl (by decide +kernel)) ?_
  refine aSims_c (i := 10) (s_if_eq hC dX7_not0_15 rfl rfl rfl) ?_
  refine aSims_c (i := 11) (s_aload_n hC dX7_not0_18 rfl rfl) ?_
  refine aSims_c (i := 12) (s_callV (n := 0) hC dX7_not0_19 rfl rfl (hE 131 _ _ _ _ rfl) (hF _ (by decide)) w_1064 w_1061 w_1063 w_45 w_109 rfl (by decide +kernel)) ?_
  refine aSims_c (i := 13) (s_if_ne hC dX7_not0_22 rfl rfl rfl) ?_
  refine aSims_c (i := 14) (s_iconst hC dX7_not0_25 rfl rfl rfl) ?_
  refine aSims_c (i := 15) (s_iret hC dX7_not0_26 rfl hr hlk nar_qI) ?_
  refine aSims_c (i := 16) (s_aload_n hC dX7_not0_27 rfl rfl) ?_
  refine aSims_c (i := 17) (s_callV (n := 0) hC dX7_not0_28 rfl rfl (hE 160 _ _ _ _ rfl) (hF _ (by decide)) w_1068 w_1065 w_1067 w_46 w_109 rfl (by decide +kernel)) ?_
  refine aSims_c (i := 18) (s_istore_n hC dX7_not0_31 rfl rfl) ?_
  refine aSims_c (i := 19) (s_aload_n hC dX7_not0_32 rfl rfl) ?_
  refine aSims_c (i := 20) (s_dup hC dX7_not0_33 rfl rfl) ?_
  refine aSims_c (i := 21) (s_get hC dX7_not0_34 rfl rfl w_867 rfl rfl inB7 (by decide)) ?_
  refine aSims_c (i := 22) (s_iconst hC dX7_not0_37 rfl rfl rfl) ?_
  refine aSims_c (i := 23) (s_isub hC dX7_not0_38 rfl rfl) ?_
  refine aSims_c (i := 24) (s_put hC dX7_not0_39 rfl rfl w_867 rfl rfl inB7 tyX7_ok nmX7 (by decide) rfl) ?_
  refine aSims_c (i := 25) (s_iload_n hC dX7_not0_42 rfl rfl) ?_
  refine aSims_c (i := 26) (s_if_ne hC dX7_not0_43 rfl rfl rfl) ?_
  refine aSims_c (i := 27) (s_iconst hC dX7_not0_46 rfl rfl rfl) ?_
  refine aSims_c (i := 28) (s_goto hC dX7_not0_47 rfl rfl) ?_
  refine aSims_c (i := 29) (s_iconst hC dX7_not0_50 rfl rfl rfl) ?_
  refine aSims_c (i := 30) (s_iret hC dX7_not0_51 rfl hr hlk nar_qI) ?_
  refine aSims_c (i := 31) (s_aload_n hC dX7_not0_52 rfl rfl) ?_
  refine aSims_c (i := 32) (s_callV (n := 0) hC dX7_not0_53 rfl rfl (hE 165 _ _ _ _ rfl) (hF _ (by decide)) w_1190 w_1187 w_1189 w_76 w_109 rfl (by decide +kernel)) ?_
  refine aSims_c (i := 33) (s_istore_n hC dX7_not0_56 rfl rfl) ?_
  refine aSims_c (i := 34) (s_aload_n hC dX7_not0_57 rfl rfl) ?_
  refine aSims_c (i := 35) (s_bipush hC dX7_not0_58 rfl rfl rfl) ?_
  refine aSims_c (i := 36) (s_callV (n := 1) hC dX7_not0_60 rfl rfl (hE 130 _ _ _ _ rfl) (hF _ (by decide)) w_1100 w_1097 w_1099 w_54 w_109 rfl (by decide +kernel)) ?_
  refine aSims_c (i := 37) (s_if_ne hC dX7_not0_63 rfl rfl rfl) ?_
  refine aSims_c (i := 38) (s_aload_n hC dX7_not0_66 rfl rfl) ?_
  refine aSims_c (i := 39) (s_bipush hC dX7_not0_67 rfl rfl rfl) ?_
  refine aSims_c (i := 40) (s_callV (n := 1) hC dX7_not0_69 rfl rfl (hE 130 _ _ _ _ rfl) (hF _ (by decide)) w_1100 w_1097 w_1099 w_54 w_109 rfl (by decide +kernel)) ?_
  refine aSims_c (i := 41) (s_if_ne hC dX7_not0_72 rfl rfl rfl) ?_
  refine aSims_c (i := 42) (s_iload_n hC dX7_not0_75 rfl rfl) ?_
  refine aSims_c (i := 43) (s_iret hC dX7_not0_76 rfl hr hlk nar_qI) ?_
  refine aSims_c (i := 44) (s_aload_n hC dX7_not0_77 rfl rfl) ?_
  refine aSims_c (i := 45) (s_get hC dX7_not0_78 rfl rfl w_866 rfl rfl inB7 (by decide)) ?_
  refine aSims_c (i := 46) (s_ldc2 hC dX7_not0_81 w_1106 rfl rfl) ?_
  refine aSims_c (i := 47) (s_lcmp hC dX7_not0_84 rfl rfl) ?_
  refine aSims_c (i := 48) (s_if_ne hC dX7_not0_85 rfl rfl rfl) ?_
  refine aSims_c (i := 49) (s_iconst hC dX7_not0_88 rfl rfl rfl) ?_
  refine aSims_c (i := 50) (s_goto hC dX7_not0_89 rfl rfl) ?_
  refine aSims_c (i := 51) (s_iconst hC dX7_not0_92 rfl rfl rfl) ?_
  refine aSims_c (i := 52) (s_istore_n hC dX7_not0_93 rfl rfl) ?_
  refine aSims_c (i := 53) (s_aload_n hC dX7_not0_94 rfl rfl) ?_
  refine aSims_c (i := 54) (s_callV (n := 0) hC dX7_not0_95 rfl rfl (hE 126 _ _ _ _ rfl) (hF _ (by decide)) w_1024 w_1021 w_1023 w_36 w_109 rfl (by decide +kernel)) ?_
  refine aSims_c (i := 55) (s_aload_n hC dX7_not0_98 rfl rfl) ?_
  refine aSims_c (i := 56) (s_callV (n := 0) hC dX7_not0_99 rfl rfl (hE 165 _ _ _ _ rfl) (hF _ (by decide)) w_1190 w_1187 w_1189 w_76 w_109 rfl (by decide +kernel)) ?_
  refine aSims_c (i := 57) (s_istore_n hC dX7_not0_102 rfl rfl) ?_
  refine aSims_c (i := 58) (s_iload_n hC dX7_not0_103 rfl rfl) ?_
  refine aSims_c (i := 59) (s_if_eq hC dX7_not0_104 rfl rfl rfl) ?_
  refine aSims_c (i := 60) (s_iload_n hC dX7_not0_107 rfl rfl) ?_
  refine aSims_c (i := 61) (s_iload_n hC dX7_not0_108 rfl rfl) ?_
  refine aSims_c (i := 62) (s_icmp_ge hC dX7_not0_109 rfl rfl rfl) ?_
  refine aSims_c (i := 63) (s_goto hC dX7_not0_112 rfl rfl) ?_
  refine aSims_c (i := 64) (s_iload_n hC dX7_not0_115 rfl rfl) ?_
  refine aSims_c (i := 65) (s_iload_n hC dX7_not0_116 rfl rfl) ?_
  refine aSims_c (i := 66) (s_icmp_ne hC dX7_not0_117 rfl rfl rfl) ?_
  refine aSims_c (i := 67) (s_iconst hC dX7_not0_120 rfl rfl rfl) ?_
  refine aSims_c (i := 68) (s_goto hC dX7_not0_121 rfl rfl) ?_
  refine aSims_c (i := 69) (s_iconst hC dX7_not0_124 rfl rfl rfl) ?_
  refine aSims_c (i := 70) (s_iret hC dX7_not0_125 rfl hr hlk nar_qI) ?_
  exact aSims_n
set_option maxHeartbeats 4000000 in
set_option maxRecDepth 20000 in
theorem sm_X7_both0 (hC : aC p s m args c cX7_both0 3 RX7 D cA ad bs n0 H0 X) (hF : ∀ ml, ml ≤ 41 → aFit R d ml) (hRm : 16 ≤ R.frames ∧ 1000 ≤ R.locals) (hE : aCalls l D cA ad bs X d E) (hr : meth.sig.returnType = (some .int)) (hlk : meth.locks = false) : aSims (fun f i => aSim p l e R s m args below meth c (aEnd below s args D cA ad bs n0 z0 rv hf) 3 D cA ad bs n0 z0 H0 (apc pc_X7_both0) rv hf E f i) (cd_X7_both0) 0 := by
  unfold cd_X7_both0
  refine aSims_c (i := 0) (s_aload_n hC dX7_both0_0 rfl rfl) ?_
  refine aSims_c (i := 1) (s_callV (n := 0) hC dX7_both0_1 rfl rfl (hE 166 _ _ _ _ rfl) (hF _ (by decide)) w_1060 w_1057 w_1059 w_44 w_109 rfl (by decide +kernel)) ?_
  refine aSims_c (i := 2) (s_istore_n hC dX7_both0_4 rfl rfl) ?_
  refine aSims_c (i := 3) (s_aload_n hC dX7_both0_5 rfl rfl) ?_
  refine aSims_c (i := 4) (s_bipush hC dX7_both0_6 rfl rfl rfl) ?_
  refine aSims_c (i := 5) (s_bipush hC dX7_both0_8 rfl rfl rfl) ?_
  refine aSims_c (i := 6) (s_bipush hC dX7_both0_10 rfl rfl rfl) ?_
  refine aSims_c (i := 7) (s_iconst hC dX7_both0_12 rfl rfl rfl) ?_
  refine aSims_c (i := 8) (s_iconst hC dX7_both0_13 rfl rfl rfl) ?_
  refine aSims_c (i := 9) (s_iconst hC dX7_both0_14 rfl rfl rfl) ?_
  refine aSims_c (i := 10) (s_iconst hC dX7_both0_15 rfl rfl rfl) ?_
  refine aSims_c (i := 11) (s_iconst hC dX7_both0_16 rfl rfl rfl) ?_
  refine aSims_c (i := 12) (s_callV (n := 8) hC dX7_both0_17 rfl rfl (hE 129 _ _ _ _ rfl) (hF _ (by decide)) w_1036 w_1033 w_1035 w_38 w_109 rfl (by decide +kernel)) ?_
  refine aSims_c (i := 13) (s_if_eq hC dX7_both0_20 rfl rfl rfl) ?_
  refine aSims_c (i := 14) (s_aload_n hC dX7_both0_23 rfl rfl) ?_
  refine aSims_c (i := 15) (s_callV (n := 0) hC dX7_both0_24 rfl rfl (hE 126 _ _ _ _ rfl) (hF _ (by decide)) w_1024 w_1021 w_1023 w_36 w_109 rfl (by decide +kernel)) ?_
  refine aSims_c (i := 16) (s_aload_n hC dX7_both0_27 rfl rfl) ?_
  refine aSims_c (i := 17) (s_callV (n := 0) hC dX7_both0_28 rfl rfl (hE 166 _ _ _ _ rfl) (hF _ (by decide)) w_1060 w_1057 w_1059 w_44 w_109 rfl (by decide +kernel)) ?_
  refine aSims_c (i := 18) (s_istore_n hC dX7_both0_31 rfl rfl) ?_
  refine aSims_c (i := 19) (s_iload_n hC dX7_both0_32 rfl rfl) ?_
  refine aSims_c (i := 20) (s_if_eq hC dX7_both0_33 rfl rfl rfl) ?_
  refine aSims_c (i := 21) (s_iload_n hC dX7_both0_36 rfl rfl) ?_
  refine aSims_c (i := 22) (s_if_eq hC dX7_both0_37 rfl rfl rfl) ?_
  refine aSims_c (i := 23) (s_iconst hC dX7_both0_40 rfl rfl rfl) ?_
  refine aSims_c (i := 24) (s_goto hC dX7_both0_41 rfl rfl) ?_
  refine aSims_c (i := 25) (s_iconst hC dX7_both0_44 rfl rfl rfl) ?_
  refine aSims_c (i := 26) (s_istore_n hC dX7_both0_45 rfl rfl) ?_
  refine aSims_c (i := 27) (s_goto hC dX7_both0_46 rfl rfl) ?_
  refine aSims_c (i := 28) (s_iload_n hC dX7_both0_49 rfl rfl) ?_
  refine aSims_c (i := 29) (s_iret hC dX7_both0_50 rfl hr hlk nar_qI) ?_
  exact aSims_n
set_option maxHeartbeats 4000000 in
set_option maxRecDepth 20000 in
theorem sm_X7_either0 (hC : aC p s m args c cX7_either0 3 RX7 D cA ad bs n0 H0 X) (hF : ∀ ml, ml ≤ 41 → aFit R d ml) (hRm : 16 ≤ R.frames ∧ 1000 ≤ R.locals) (hE : aCalls l D cA ad bs X d E) (hr : meth.sig.returnType = (some .int)) (hlk : meth.locks = false) : aSims (fun f i => aSim p l e R s m args below meth c (aEnd below s args D cA ad bs n0 z0 rv hf) 3 D cA ad bs n0 z0 H0 (apc pc_X7_either0) rv hf E f i) (cd_X7_either0) 0 := by
  unfold cd_X7_either0
  refine aSims_c (i := 0) (s_aload_n hC dX7_either0_0 rfl rfl) ?_
  refine aSims_c (i := 1) (s_callV (n := 0) hC dX7_either0_1 rfl rfl (hE 167 _ _ _ _ rfl) (hF _ (by decide)) w_1056 w_1053 w_1055 w_43 w_109 rfl (by decide +kernel)) ?_
  refine aSims_c (i := 2) (s_istore_n hC dX7_either0_4 rfl rfl) ?_
  refine aSims_c (i := 3) (s_aload_n hC dX7_either0_5 rfl rfl) ?_
  refine aSims_c (i := 4) (s_bipush hC dX7_either0_6 rfl rfl rfl) ?_
  refine aSims_c (i := 5) (s_bipush hC dX7_either0_8 rfl rfl rfl) ?_
  refine aSims_c (i := 6) (s_iconst hC dX7_either0_10 rfl rfl rfl) ?_
  refine aSims_c (i := 7) (s_iconst hC dX7_either0_11 rfl rfl rfl) ?_
  refine aSims_c (i := 8) (s_iconst hC dX7_either0_12 rfl rfl rfl) ?_
  refine aSims_c (i := 9) (s_iconst hC dX7_either0_13 rfl rfl rfl) ?_
  refine aSims_c (i := 10) (s_iconst hC dX7_either0_14 rfl rfl rfl) ?_
  refine aSims_c (i := 11) (s_iconst hC dX7_either0_15 rfl rfl rfl) ?_
  refine aSims_c (i := 12) (s_callV (n := 8) hC dX7_either0_16 rfl rfl (hE 129 _ _ _ _ rfl) (hF _ (by decide)) w_1036 w_1033 w_1035 w_38 w_109 rfl (by decide +kernel)) ?_
  refine aSims_c (i := 13) (s_if_eq hC dX7_either0_19 rfl rfl rfl) ?_
  refine aSims_c (i := 14) (s_aload_n hC dX7_either0_22 rfl rfl) ?_
  refine aSims_c (i := 15) (s_callV (n := 0) hC dX7_either0_23 rfl rfl (hE 126 _ _ _ _ rfl) (hF _ (by decide)) w_1024 w_1021 w_1023 w_36 w_109 rfl (by decide +kernel)) ?_
  refine aSims_c (i := 16) (s_aload_n hC dX7_either0_26 rfl rfl) ?_
  refine aSims_c (i := 17) (s_callV (n := 0) hC dX7_either0_27 rfl rfl (hE 167 _ _ _ _ rfl) (hF _ (by decide)) w_1056 w_1053 w_1055 w_43 w_109 rfl (by decide +kernel)) ?_
  refine aSims_c (i := 18) (s_istore_n hC dX7_either0_30 rfl rfl) ?_
  refine aSims_c (i := 19) (s_iload_n hC dX7_either0_31 rfl rfl) ?_
  refine aSims_c (i := 20) (s_if_ne hC dX7_either0_32 rfl rfl rfl) ?_
  refine aSims_c (i := 21) (s_iload_n hC dX7_either0_35 rfl rfl) ?_
  refine aSims_c (i := 22) (s_if_eq hC dX7_either0_36 rfl rfl rfl) ?_
  refine aSims_c (i := 23) (s_iconst hC dX7_either0_39 rfl rfl rfl) ?_
  refine aSims_c (i := 24) (s_goto hC dX7_either0_40 rfl rfl) ?_
  refine aSims_c (i := 25) (s_iconst hC dX7_either0_43 rfl rfl rfl) ?_
  refine aSims_c (i := 26) (s_istore_n hC dX7_either0_44 rfl rfl) ?_
  refine aSims_c (i := 27) (s_goto hC dX7_either0_45 rfl rfl) ?_
  refine aSims_c (i := 28) (s_iload_n hC dX7_either0_48 rfl rfl) ?_
  refine aSims_c (i := 29) (s_iret hC dX7_either0_49 rfl hr hlk nar_qI) ?_
  exact aSims_n
set_option maxHeartbeats 4000000 in
set_option maxRecDepth 20000 in
theorem sm_X7_part (hC : aC p s m args c cX7_part 3 RX7 D cA ad bs n0 H0 X) (hF : ∀ ml, ml ≤ 41 → aFit R d ml) (hRm : 16 ≤ R.frames ∧ 1000 ≤ R.locals) (hE : aCalls l D cA ad bs X d E) (hr : meth.sig.returnType = (some .int)) (hlk : meth.locks = false) : aSims (fun f i => aSim p l e R s m args below meth c (aEnd below s args D cA ad bs n0 z0 rv hf) 3 D cA ad bs n0 z0 H0 (apc pc_X7_part) rv hf E f i) (cd_X7_part) 0 := by
  unfold cd_X7_part
  refine aSims_c (i := 0) (s_iload_n hC dX7_part_0 rfl rfl) ?_
  refine aSims_c (i := 1) (s_if_ne hC dX7_part_1 rfl rfl rfl) ?_
  refine aSims_c (i := 2) (s_aload_n hC dX7_part_4 rfl rfl) ?_
  refine aSims_c (i := 3) (s_callV (n := 0) hC dX7_part_5 rfl rfl (hE 127 _ _ _ _ rfl) (hF _ (by decide)) w_1048 w_1045 w_1047 w_41 w_109 rfl (by decide +kernel)) ?_
  refine aSims_c (i := 4) (s_aload_n hC dX7_part_8 rfl rfl) ?_
  refine aSims_c (i := 5) (s_get hC dX7_part_9 rfl rfl w_868 rfl rfl inB7 (by decide)) ?_
  refine aSims_c (i := 6) (s_if_ne hC dX7_part_12 rfl rfl rfl) ?_
  refine aSims_c (i := 7) (s_aload_n hC dX7_part_15 rfl rfl) ?_
  refine aSims_c (i := 8) (s_callV (n := 0) hC dX7_part_16 rfl rfl (hE 126 _ _ _ _ rfl) (hF _ (by decide)) w_1024 w_1021 w_1023 w_36 w_109 rfl (by decide +kernel)) ?_
  refine aSims_c (i := 9) (s_aload_n hC dX7_part_19 rfl rfl) ?_
  refine aSims_c (i := 10) (s_get hC dX7_part_20 rfl rfl w_868 rfl rfl inB7 (by decide)) ?_
  refine aSims_c (i := 11) (s_if_eq hC dX7_part_23 rfl rfl rfl) ?_
  refine aSims_c (i := 12) (s_iconst hC dX7_part_26 rfl rfl rfl) ?_
  refine aSims_c (i := 13) (s_goto hC dX7_part_27 rfl rfl) ?_
  refine aSims_c (i := 14) (s_aload_n hC dX7_part_30 rfl rfl) ?_
  refine aSims_c (i := 15) (s_callV (n := 0) hC dX7_part_31 rfl rfl (hE 168 _ _ _ _ rfl) (hF _ (by decide)) w_1052 w_1049 w_1051 w_42 w_109 rfl (by decide +kernel)) ?_
  refine aSims_c (i := 16) (s_istore_n hC dX7_part_34 rfl rfl) ?_
  refine aSims_c (i := 17) (s_aload_n hC dX7_part_35 rfl rfl) ?_
  refine aSims_c (i := 18) (s_bipush hC dX7_part_36 rfl rfl rfl) ?_
  refine aSims_c (i := 19) (s_callV (n := 1) hC dX7_part_38 rfl rfl (hE 130 _ _ _ _ rfl) (hF _ (by decide)) w_1100 w_1097 w_1099 w_54 w_109 rfl (by decide +kernel)) ?_
  refine aSims_c (i := 20) (s_if_ne hC dX7_part_41 rfl rfl rfl) ?_
  refine aSims_c (i := 21) (s_aload_n hC dX7_part_44 rfl rfl) ?_
  refine aSims_c (i := 22) (s_callV (n := 0) hC dX7_part_45 rfl rfl (hE 127 _ _ _ _ rfl) (hF _ (by decide)) w_1048 w_1045 w_1047 w_41 w_109 rfl (by decide +kernel)) ?_
  refine aSims_c (i := 23) (s_aload_n hC dX7_part_48 rfl rfl) ?_
  refine aSims_c (i := 24) (s_get hC dX7_part_49 rfl rfl w_868 rfl rfl inB7 (by decide)) ?_
  refine aSims_c (i := 25) (s_if_ne hC dX7_part_52 rfl rfl rfl) ?_
  refine aSims_c (i := 26) (s_aload_n hC dX7_part_55 rfl rfl) ?_
  refine aSims_c (i := 27) (s_callV (n := 0) hC dX7_part_56 rfl rfl (hE 126 _ _ _ _ rfl) (hF _ (by decide)) w_1024 w_1021 w_1023 w_36 w_109 rfl (by decide +kernel)) ?_
  refine aSims_c (i := 28) (s_iload_n hC dX7_part_59 rfl rfl) ?_
  refine aSims_c (i := 29) (s_iret hC dX7_part_60 rfl hr hlk nar_qI) ?_
  exact aSims_n
end SIM
