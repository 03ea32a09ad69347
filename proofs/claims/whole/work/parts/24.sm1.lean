/-! each method's instructions are simulated (written by wip/whole/gen.py) -/
theorem dX1_wordAt_0 : decode cX1_wordAt 0 = .ok (.aload_n 0, 1) := by decide +kernel
theorem dX1_wordAt_1 : decode cX1_wordAt 1 = .ok (.ldc 100, 2) := by decide +kernel
theorem dX1_wordAt_3 : decode cX1_wordAt 3 = .ok (.invokevirtual 102, 3) := by decide +kernel
theorem dX1_wordAt_6 : decode cX1_wordAt 6 = .ok (.ifCond .eq 6, 3) := by decide +kernel
theorem dX1_wordAt_9 : decode cX1_wordAt 9 = .ok (.bipush 10, 2) := by decide +kernel
theorem dX1_wordAt_11 : decode cX1_wordAt 11 = .ok (.ireturn, 1) := by decide +kernel
theorem dX1_wordAt_12 : decode cX1_wordAt 12 = .ok (.aload_n 0, 1) := by decide +kernel
theorem dX1_wordAt_13 : decode cX1_wordAt 13 = .ok (.ldc 106, 2) := by decide +kernel
theorem dX1_wordAt_15 : decode cX1_wordAt 15 = .ok (.invokevirtual 102, 3) := by decide +kernel
theorem dX1_wordAt_18 : decode cX1_wordAt 18 = .ok (.ifCond .eq 6, 3) := by decide +kernel
theorem dX1_wordAt_21 : decode cX1_wordAt 21 = .ok (.bipush 11, 2) := by decide +kernel
theorem dX1_wordAt_23 : decode cX1_wordAt 23 = .ok (.ireturn, 1) := by decide +kernel
theorem dX1_wordAt_24 : decode cX1_wordAt 24 = .ok (.aload_n 0, 1) := by decide +kernel
theorem dX1_wordAt_25 : decode cX1_wordAt 25 = .ok (.ldc 108, 2) := by decide +kernel
theorem dX1_wordAt_27 : decode cX1_wordAt 27 = .ok (.invokevirtual 102, 3) := by decide +kernel
theorem dX1_wordAt_30 : decode cX1_wordAt 30 = .ok (.ifCond .eq 6, 3) := by decide +kernel
theorem dX1_wordAt_33 : decode cX1_wordAt 33 = .ok (.bipush 12, 2) := by decide +kernel
theorem dX1_wordAt_35 : decode cX1_wordAt 35 = .ok (.ireturn, 1) := by decide +kernel
theorem dX1_wordAt_36 : decode cX1_wordAt 36 = .ok (.aload_n 0, 1) := by decide +kernel
theorem dX1_wordAt_37 : decode cX1_wordAt 37 = .ok (.ldc 110, 2) := by decide +kernel
theorem dX1_wordAt_39 : decode cX1_wordAt 39 = .ok (.invokevirtual 102, 3) := by decide +kernel
theorem dX1_wordAt_42 : decode cX1_wordAt 42 = .ok (.ifCond .eq 6, 3) := by decide +kernel
theorem dX1_wordAt_45 : decode cX1_wordAt 45 = .ok (.bipush 13, 2) := by decide +kernel
theorem dX1_wordAt_47 : decode cX1_wordAt 47 = .ok (.ireturn, 1) := by decide +kernel
theorem dX1_wordAt_48 : decode cX1_wordAt 48 = .ok (.aload_n 0, 1) := by decide +kernel
theorem dX1_wordAt_49 : decode cX1_wordAt 49 = .ok (.ldc 112, 2) := by decide +kernel
theorem dX1_wordAt_51 : decode cX1_wordAt 51 = .ok (.invokevirtual 102, 3) := by decide +kernel
theorem dX1_wordAt_54 : decode cX1_wordAt 54 = .ok (.ifCond .eq 6, 3) := by decide +kernel
theorem dX1_wordAt_57 : decode cX1_wordAt 57 = .ok (.bipush 14, 2) := by decide +kernel
theorem dX1_wordAt_59 : decode cX1_wordAt 59 = .ok (.ireturn, 1) := by decide +kernel
theorem dX1_wordAt_60 : decode cX1_wordAt 60 = .ok (.aload_n 0, 1) := by decide +kernel
theorem dX1_wordAt_61 : decode cX1_wordAt 61 = .ok (.ldc 114, 2) := by decide +kernel
theorem dX1_wordAt_63 : decode cX1_wordAt 63 = .ok (.invokevirtual 102, 3) := by decide +kernel
theorem dX1_wordAt_66 : decode cX1_wordAt 66 = .ok (.ifCond .eq 6, 3) := by decide +kernel
theorem dX1_wordAt_69 : decode cX1_wordAt 69 = .ok (.bipush 15, 2) := by decide +kernel
theorem dX1_wordAt_71 : decode cX1_wordAt 71 = .ok (.ireturn, 1) := by decide +kernel
theorem dX1_wordAt_72 : decode cX1_wordAt 72 = .ok (.aload_n 0, 1) := by decide +kernel
theorem dX1_wordAt_73 : decode cX1_wordAt 73 = .ok (.ldc 116, 2) := by decide +kernel
theorem dX1_wordAt_75 : decode cX1_wordAt 75 = .ok (.invokevirtual 102, 3) := by decide +kernel
theorem dX1_wordAt_78 : decode cX1_wordAt 78 = .ok (.ifCond .eq 5, 3) := by decide +kernel
theorem dX1_wordAt_81 : decode cX1_wordAt 81 = .ok (.iconst 3, 1) := by decide +kernel
theorem dX1_wordAt_82 : decode cX1_wordAt 82 = .ok (.ireturn, 1) := by decide +kernel
theorem dX1_wordAt_83 : decode cX1_wordAt 83 = .ok (.aload_n 0, 1) := by decide +kernel
theorem dX1_wordAt_84 : decode cX1_wordAt 84 = .ok (.ldc 118, 2) := by decide +kernel
theorem dX1_wordAt_86 : decode cX1_wordAt 86 = .ok (.invokevirtual 102, 3) := by decide +kernel
theorem dX1_wordAt_89 : decode cX1_wordAt 89 = .ok (.ifCond .eq 5, 3) := by decide +kernel
theorem dX1_wordAt_92 : decode cX1_wordAt 92 = .ok (.iconst 4, 1) := by decide +kernel
theorem dX1_wordAt_93 : decode cX1_wordAt 93 = .ok (.ireturn, 1) := by decide +kernel
theorem dX1_wordAt_94 : decode cX1_wordAt 94 = .ok (.aload_n 0, 1) := by decide +kernel
theorem dX1_wordAt_95 : decode cX1_wordAt 95 = .ok (.ldc 120, 2) := by decide +kernel
theorem dX1_wordAt_97 : decode cX1_wordAt 97 = .ok (.invokevirtual 102, 3) := by decide +kernel
theorem dX1_wordAt_100 : decode cX1_wordAt 100 = .ok (.ifCond .eq 5, 3) := by decide +kernel
theorem dX1_wordAt_103 : decode cX1_wordAt 103 = .ok (.iconst 5, 1) := by decide +kernel
theorem dX1_wordAt_104 : decode cX1_wordAt 104 = .ok (.ireturn, 1) := by decide +kernel
theorem dX1_wordAt_105 : decode cX1_wordAt 105 = .ok (.aload_n 0, 1) := by decide +kernel
theorem dX1_wordAt_106 : decode cX1_wordAt 106 = .ok (.ldc 122, 2) := by decide +kernel
theorem dX1_wordAt_108 : decode cX1_wordAt 108 = .ok (.invokevirtual 102, 3) := by decide +kernel
theorem dX1_wordAt_111 : decode cX1_wordAt 111 = .ok (.ifCond .eq 6, 3) := by decide +kernel
theorem dX1_wordAt_114 : decode cX1_wordAt 114 = .ok (.bipush 6, 2) := by decide +kernel
theorem dX1_wordAt_116 : decode cX1_wordAt 116 = .ok (.ireturn, 1) := by decide +kernel
theorem dX1_wordAt_117 : decode cX1_wordAt 117 = .ok (.aload_n 0, 1) := by decide +kernel
theorem dX1_wordAt_118 : decode cX1_wordAt 118 = .ok (.ldc 124, 2) := by decide +kernel
theorem dX1_wordAt_120 : decode cX1_wordAt 120 = .ok (.invokevirtual 102, 3) := by decide +kernel
theorem dX1_wordAt_123 : decode cX1_wordAt 123 = .ok (.ifCond .eq 6, 3) := by decide +kernel
theorem dX1_wordAt_126 : decode cX1_wordAt 126 = .ok (.bipush 7, 2) := by decide +kernel
theorem dX1_wordAt_128 : decode cX1_wordAt 128 = .ok (.ireturn, 1) := by decide +kernel
theorem dX1_wordAt_129 : decode cX1_wordAt 129 = .ok (.aload_n 0, 1) := by decide +kernel
theorem dX1_wordAt_130 : decode cX1_wordAt 130 = .ok (.ldc 126, 2) := by decide +kernel
theorem dX1_wordAt_132 : decode cX1_wordAt 132 = .ok (.invokevirtual 102, 3) := by decide +kernel
theorem dX1_wordAt_135 : decode cX1_wordAt 135 = .ok (.ifCond .eq 8, 3) := by decide +kernel
theorem dX1_wordAt_138 : decode cX1_wordAt 138 = .ok (.bipush 8, 2) := by decide +kernel
theorem dX1_wordAt_140 : decode cX1_wordAt 140 = .ok (.goto 4, 3) := by decide +kernel
theorem dX1_wordAt_143 : decode cX1_wordAt 143 = .ok (.iconst 1, 1) := by decide +kernel
theorem dX1_wordAt_144 : decode cX1_wordAt 144 = .ok (.ireturn, 1) := by decide +kernel
theorem dX1_reads_0 : decode cX1_reads 0 = .ok (.aload_n 0, 1) := by decide +kernel
theorem dX1_reads_1 : decode cX1_reads 1 = .ok (.getfield 31, 3) := by decide +kernel
theorem dX1_reads_4 : decode cX1_reads 4 = .ok (.aload_n 0, 1) := by decide +kernel
theorem dX1_reads_5 : decode cX1_reads 5 = .ok (.getfield 44, 3) := by decide +kernel
theorem dX1_reads_8 : decode cX1_reads 8 = .ok (.isub, 1) := by decide +kernel
theorem dX1_reads_9 : decode cX1_reads 9 = .ok (.aload_n 1, 1) := by decide +kernel
theorem dX1_reads_10 : decode cX1_reads 10 = .ok (.invokevirtual 128, 3) := by decide +kernel
theorem dX1_reads_13 : decode cX1_reads 13 = .ok (.if_icmp .eq 5, 3) := by decide +kernel
theorem dX1_reads_16 : decode cX1_reads 16 = .ok (.iconst 0, 1) := by decide +kernel
theorem dX1_reads_17 : decode cX1_reads 17 = .ok (.ireturn, 1) := by decide +kernel
theorem dX1_reads_18 : decode cX1_reads 18 = .ok (.iconst 0, 1) := by decide +kernel
theorem dX1_reads_19 : decode cX1_reads 19 = .ok (.istore_n 2, 1) := by decide +kernel
theorem dX1_reads_20 : decode cX1_reads 20 = .ok (.iload_n 2, 1) := by decide +kernel
theorem dX1_reads_21 : decode cX1_reads 21 = .ok (.aload_n 1, 1) := by decide +kernel
theorem dX1_reads_22 : decode cX1_reads 22 = .ok (.invokevirtual 128, 3) := by decide +kernel
theorem dX1_reads_25 : decode cX1_reads 25 = .ok (.if_icmp .ge 29, 3) := by decide +kernel
theorem dX1_reads_28 : decode cX1_reads 28 = .ok (.aload_n 0, 1) := by decide +kernel
theorem dX1_reads_29 : decode cX1_reads 29 = .ok (.aload_n 0, 1) := by decide +kernel
theorem dX1_reads_30 : decode cX1_reads 30 = .ok (.getfield 44, 3) := by decide +kernel
theorem dX1_reads_33 : decode cX1_reads 33 = .ok (.iload_n 2, 1) := by decide +kernel
theorem dX1_reads_34 : decode cX1_reads 34 = .ok (.iadd, 1) := by decide +kernel
theorem dX1_reads_35 : decode cX1_reads 35 = .ok (.invokevirtual 82, 3) := by decide +kernel
theorem dX1_reads_38 : decode cX1_reads 38 = .ok (.aload_n 1, 1) := by decide +kernel
theorem dX1_reads_39 : decode cX1_reads 39 = .ok (.iload_n 2, 1) := by decide +kernel
theorem dX1_reads_40 : decode cX1_reads 40 = .ok (.invokevirtual 133, 3) := by decide +kernel
theorem dX1_reads_43 : decode cX1_reads 43 = .ok (.if_icmp .eq 5, 3) := by decide +kernel
theorem dX1_reads_46 : decode cX1_reads 46 = .ok (.iconst 0, 1) := by decide +kernel
theorem dX1_reads_47 : decode cX1_reads 47 = .ok (.ireturn, 1) := by decide +kernel
theorem dX1_reads_48 : decode cX1_reads 48 = .ok (.iinc 2 1, 3) := by decide +kernel
theorem dX1_reads_51 : decode cX1_reads 51 = .ok (.goto (-31), 3) := by decide +kernel
theorem dX1_reads_54 : decode cX1_reads 54 = .ok (.iconst 1, 1) := by decide +kernel
theorem dX1_reads_55 : decode cX1_reads 55 = .ok (.ireturn, 1) := by decide +kernel
theorem dX2_init_0 : decode cX2_init 0 = .ok (.aload_n 0, 1) := by decide +kernel
theorem dX2_init_1 : decode cX2_init 1 = .ok (.invokespecial 3, 3) := by decide +kernel
theorem dX2_init_4 : decode cX2_init 4 = .ok (.aload_n 0, 1) := by decide +kernel
theorem dX2_init_5 : decode cX2_init 5 = .ok (.iconst (-1), 1) := by decide +kernel
theorem dX2_init_6 : decode cX2_init 6 = .ok (.putfield 9, 3) := by decide +kernel
theorem dX2_init_9 : decode cX2_init 9 = .ok (.aload_n 0, 1) := by decide +kernel
theorem dX2_init_10 : decode cX2_init 10 = .ok (.bipush 40, 2) := by decide +kernel
theorem dX2_init_12 : decode cX2_init 12 = .ok (.newarray .int, 2) := by decide +kernel
theorem dX2_init_14 : decode cX2_init 14 = .ok (.putfield 15, 3) := by decide +kernel
theorem dX2_init_17 : decode cX2_init 17 = .ok (.return_, 1) := by decide +kernel
theorem dX2_become_0 : decode cX2_become 0 = .ok (.aload_n 0, 1) := by decide +kernel
theorem dX2_become_1 : decode cX2_become 1 = .ok (.iload_n 1, 1) := by decide +kernel
theorem dX2_become_2 : decode cX2_become 2 = .ok (.putfield 9, 3) := by decide +kernel
theorem dX2_become_5 : decode cX2_become 5 = .ok (.aload_n 0, 1) := by decide +kernel
theorem dX2_become_6 : decode cX2_become 6 = .ok (.iload_n 2, 1) := by decide +kernel
theorem dX2_become_7 : decode cX2_become 7 = .ok (.iconst 0, 1) := by decide +kernel
theorem dX2_become_8 : decode cX2_become 8 = .ok (.bipush 40, 2) := by decide +kernel
theorem dX2_become_10 : decode cX2_become 10 = .ok (.invokestatic 19, 3) := by decide +kernel
theorem dX2_become_13 : decode cX2_become 13 = .ok (.putfield 23, 3) := by decide +kernel
theorem dX2_become_16 : decode cX2_become 16 = .ok (.aload_n 0, 1) := by decide +kernel
theorem dX2_become_17 : decode cX2_become 17 = .ok (.getfield 15, 3) := by decide +kernel
theorem dX2_become_20 : decode cX2_become 20 = .ok (.iconst 0, 1) := by decide +kernel
theorem dX2_become_21 : decode cX2_become 21 = .ok (.invokestatic 26, 3) := by decide +kernel
theorem dX2_become_24 : decode cX2_become 24 = .ok (.return_, 1) := by decide +kernel
theorem dX2_has_0 : decode cX2_has 0 = .ok (.iload_n 1, 1) := by decide +kernel
theorem dX2_has_1 : decode cX2_has 1 = .ok (.ifCond .lt 21, 3) := by decide +kernel
theorem dX2_has_4 : decode cX2_has 4 = .ok (.iload_n 1, 1) := by decide +kernel
theorem dX2_has_5 : decode cX2_has 5 = .ok (.aload_n 0, 1) := by decide +kernel
theorem dX2_has_6 : decode cX2_has 6 = .ok (.getfield 23, 3) := by decide +kernel
theorem dX2_has_9 : decode cX2_has 9 = .ok (.if_icmp .ge 13, 3) := by decide +kernel
theorem dX2_has_12 : decode cX2_has 12 = .ok (.iload_n 1, 1) := by decide +kernel
theorem dX2_has_13 : decode cX2_has 13 = .ok (.bipush 40, 2) := by decide +kernel
theorem dX2_has_15 : decode cX2_has 15 = .ok (.if_icmp .ge 7, 3) := by decide +kernel
theorem dX2_has_18 : decode cX2_has 18 = .ok (.iconst 1, 1) := by decide +kernel
theorem dX2_has_19 : decode cX2_has 19 = .ok (.goto 4, 3) := by decide +kernel
theorem dX2_has_22 : decode cX2_has 22 = .ok (.iconst 0, 1) := by decide +kernel
theorem dX2_has_23 : decode cX2_has 23 = .ok (.ireturn, 1) := by decide +kernel
theorem dX2_hasRun_0 : decode cX2_hasRun 0 = .ok (.iload_n 1, 1) := by decide +kernel
theorem dX2_hasRun_1 : decode cX2_hasRun 1 = .ok (.ifCond .lt 29, 3) := by decide +kernel
theorem dX2_hasRun_4 : decode cX2_hasRun 4 = .ok (.iload_n 2, 1) := by decide +kernel
theorem dX2_hasRun_5 : decode cX2_hasRun 5 = .ok (.ifCond .lt 25, 3) := by decide +kernel
theorem dX2_hasRun_8 : decode cX2_hasRun 8 = .ok (.iload_n 1, 1) := by decide +kernel
theorem dX2_hasRun_9 : decode cX2_hasRun 9 = .ok (.aload_n 0, 1) := by decide +kernel
theorem dX2_hasRun_10 : decode cX2_hasRun 10 = .ok (.getfield 23, 3) := by decide +kernel
theorem dX2_hasRun_13 : decode cX2_hasRun 13 = .ok (.if_icmp .gt 17, 3) := by decide +kernel
theorem dX2_hasRun_16 : decode cX2_hasRun 16 = .ok (.iload_n 2, 1) := by decide +kernel
theorem dX2_hasRun_17 : decode cX2_hasRun 17 = .ok (.aload_n 0, 1) := by decide +kernel
theorem dX2_hasRun_18 : decode cX2_hasRun 18 = .ok (.getfield 23, 3) := by decide +kernel
theorem dX2_hasRun_21 : decode cX2_hasRun 21 = .ok (.iload_n 1, 1) := by decide +kernel
theorem dX2_hasRun_22 : decode cX2_hasRun 22 = .ok (.isub, 1) := by decide +kernel
theorem dX2_hasRun_23 : decode cX2_hasRun 23 = .ok (.if_icmp .gt 7, 3) := by decide +kernel
theorem dX2_hasRun_26 : decode cX2_hasRun 26 = .ok (.iconst 1, 1) := by decide +kernel
theorem dX2_hasRun_27 : decode cX2_hasRun 27 = .ok (.goto 4, 3) := by decide +kernel
theorem dX2_hasRun_30 : decode cX2_hasRun 30 = .ok (.iconst 0, 1) := by decide +kernel
theorem dX2_hasRun_31 : decode cX2_hasRun 31 = .ok (.ireturn, 1) := by decide +kernel
theorem dX2_put_0 : decode cX2_put 0 = .ok (.aload_n 0, 1) := by decide +kernel
theorem dX2_put_1 : decode cX2_put 1 = .ok (.iload_n 1, 1) := by decide +kernel
theorem dX2_put_2 : decode cX2_put 2 = .ok (.invokevirtual 32, 3) := by decide +kernel
theorem dX2_put_5 : decode cX2_put 5 = .ok (.ifCond .eq 35, 3) := by decide +kernel
theorem dX2_put_8 : decode cX2_put 8 = .ok (.aload_n 0, 1) := by decide +kernel
theorem dX2_put_9 : decode cX2_put 9 = .ok (.getfield 15, 3) := by decide +kernel
theorem dX2_put_12 : decode cX2_put 12 = .ok (.iload_n 1, 1) := by decide +kernel
theorem dX2_put_13 : decode cX2_put 13 = .ok (.aload_n 0, 1) := by decide +kernel
theorem dX2_put_14 : decode cX2_put 14 = .ok (.getfield 9, 3) := by decide +kernel
theorem dX2_put_17 : decode cX2_put 17 = .ok (.ifCond .ne 8, 3) := by decide +kernel
theorem dX2_put_20 : decode cX2_put 20 = .ok (.iload_n 2, 1) := by decide +kernel
theorem dX2_put_21 : decode cX2_put 21 = .ok (.i2b, 1) := by decide +kernel
theorem dX2_put_22 : decode cX2_put 22 = .ok (.goto 17, 3) := by decide +kernel
theorem dX2_put_25 : decode cX2_put 25 = .ok (.aload_n 0, 1) := by decide +kernel
theorem dX2_put_26 : decode cX2_put 26 = .ok (.getfield 9, 3) := by decide +kernel
theorem dX2_put_29 : decode cX2_put 29 = .ok (.iconst 1, 1) := by decide +kernel
theorem dX2_put_30 : decode cX2_put 30 = .ok (.if_icmp .ne 8, 3) := by decide +kernel
theorem dX2_put_33 : decode cX2_put 33 = .ok (.iload_n 2, 1) := by decide +kernel
theorem dX2_put_34 : decode cX2_put 34 = .ok (.i2s, 1) := by decide +kernel
theorem dX2_put_35 : decode cX2_put 35 = .ok (.goto 4, 3) := by decide +kernel
theorem dX2_put_38 : decode cX2_put 38 = .ok (.iload_n 2, 1) := by decide +kernel
theorem dX2_put_39 : decode cX2_put 39 = .ok (.iastore, 1) := by decide +kernel
theorem dX2_put_40 : decode cX2_put 40 = .ok (.return_, 1) := by decide +kernel
theorem dX3_init_0 : decode cX3_init 0 = .ok (.aload_n 0, 1) := by decide +kernel
theorem dX3_init_1 : decode cX3_init 1 = .ok (.invokespecial 3, 3) := by decide +kernel
theorem dX3_init_4 : decode cX3_init 4 = .ok (.aload_n 0, 1) := by decide +kernel
theorem dX3_init_5 : decode cX3_init 5 = .ok (.sipush 160, 3) := by decide +kernel
theorem dX3_init_8 : decode cX3_init 8 = .ok (.newarray .int, 2) := by decide +kernel
theorem dX3_init_10 : decode cX3_init 10 = .ok (.putfield 9, 3) := by decide +kernel
theorem dX3_init_13 : decode cX3_init 13 = .ok (.aload_n 0, 1) := by decide +kernel
theorem dX3_init_14 : decode cX3_init 14 = .ok (.iconst 3, 1) := by decide +kernel
theorem dX3_init_15 : decode cX3_init 15 = .ok (.newarray .int, 2) := by decide +kernel
theorem dX3_init_17 : decode cX3_init 17 = .ok (.putfield 15, 3) := by decide +kernel
theorem dX3_init_20 : decode cX3_init 20 = .ok (.aload_n 0, 1) := by decide +kernel
theorem dX3_init_21 : decode cX3_init 21 = .ok (.bipush 32, 2) := by decide +kernel
theorem dX3_init_23 : decode cX3_init 23 = .ok (.newarray .int, 2) := by decide +kernel
theorem dX3_init_25 : decode cX3_init 25 = .ok (.putfield 18, 3) := by decide +kernel
theorem dX3_init_28 : decode cX3_init 28 = .ok (.aload_n 0, 1) := by decide +kernel
theorem dX3_init_29 : decode cX3_init 29 = .ok (.iload_n 1, 1) := by decide +kernel
theorem dX3_init_30 : decode cX3_init 30 = .ok (.putfield 21, 3) := by decide +kernel
theorem dX3_init_33 : decode cX3_init 33 = .ok (.return_, 1) := by decide +kernel
theorem dX3_empty_0 : decode cX3_empty 0 = .ok (.aload_n 0, 1) := by decide +kernel
theorem dX3_empty_1 : decode cX3_empty 1 = .ok (.iconst 0, 1) := by decide +kernel
theorem dX3_empty_2 : decode cX3_empty 2 = .ok (.putfield 25, 3) := by decide +kernel
theorem dX3_empty_5 : decode cX3_empty 5 = .ok (.aload_n 0, 1) := by decide +kernel
theorem dX3_empty_6 : decode cX3_empty 6 = .ok (.getfield 15, 3) := by decide +kernel
theorem dX3_empty_9 : decode cX3_empty 9 = .ok (.iconst 0, 1) := by decide +kernel
theorem dX3_empty_10 : decode cX3_empty 10 = .ok (.invokestatic 28, 3) := by decide +kernel
theorem dX3_empty_13 : decode cX3_empty 13 = .ok (.return_, 1) := by decide +kernel
theorem dX3_become_0 : decode cX3_become 0 = .ok (.aload_n 0, 1) := by decide +kernel
theorem dX3_become_1 : decode cX3_become 1 = .ok (.aload_n 1, 1) := by decide +kernel
theorem dX3_become_2 : decode cX3_become 2 = .ok (.getfield 25, 3) := by decide +kernel
theorem dX3_become_5 : decode cX3_become 5 = .ok (.putfield 25, 3) := by decide +kernel
theorem dX3_become_8 : decode cX3_become 8 = .ok (.aload_n 1, 1) := by decide +kernel
theorem dX3_become_9 : decode cX3_become 9 = .ok (.getfield 15, 3) := by decide +kernel
theorem dX3_become_12 : decode cX3_become 12 = .ok (.iconst 0, 1) := by decide +kernel
theorem dX3_become_13 : decode cX3_become 13 = .ok (.aload_n 0, 1) := by decide +kernel
theorem dX3_become_14 : decode cX3_become 14 = .ok (.getfield 15, 3) := by decide +kernel
theorem dX3_become_17 : decode cX3_become 17 = .ok (.iconst 0, 1) := by decide +kernel
theorem dX3_become_18 : decode cX3_become 18 = .ok (.iconst 3, 1) := by decide +kernel
theorem dX3_become_19 : decode cX3_become 19 = .ok (.invokestatic 34, 3) := by decide +kernel
theorem dX3_become_22 : decode cX3_become 22 = .ok (.aload_n 1, 1) := by decide +kernel
theorem dX3_become_23 : decode cX3_become 23 = .ok (.getfield 9, 3) := by decide +kernel
theorem dX3_become_26 : decode cX3_become 26 = .ok (.iconst 0, 1) := by decide +kernel
theorem dX3_become_27 : decode cX3_become 27 = .ok (.aload_n 0, 1) := by decide +kernel
theorem dX3_become_28 : decode cX3_become 28 = .ok (.getfield 9, 3) := by decide +kernel
theorem dX3_become_31 : decode cX3_become 31 = .ok (.iconst 0, 1) := by decide +kernel
theorem dX3_become_32 : decode cX3_become 32 = .ok (.sipush 160, 3) := by decide +kernel
theorem dX3_become_35 : decode cX3_become 35 = .ok (.invokestatic 34, 3) := by decide +kernel
theorem dX3_become_38 : decode cX3_become 38 = .ok (.return_, 1) := by decide +kernel
theorem dX3_add_0 : decode cX3_add 0 = .ok (.aload_n 0, 1) := by decide +kernel
theorem dX3_add_1 : decode cX3_add 1 = .ok (.getfield 25, 3) := by decide +kernel
theorem dX3_add_4 : decode cX3_add 4 = .ok (.ifCond .lt 33, 3) := by decide +kernel
theorem dX3_add_7 : decode cX3_add 7 = .ok (.aload_n 0, 1) := by decide +kernel
theorem dX3_add_8 : decode cX3_add 8 = .ok (.getfield 25, 3) := by decide +kernel
theorem dX3_add_11 : decode cX3_add 11 = .ok (.sipush 160, 3) := by decide +kernel
theorem dX3_add_14 : decode cX3_add 14 = .ok (.if_icmp .ge 23, 3) := by decide +kernel
theorem dX3_add_17 : decode cX3_add 17 = .ok (.aload_n 0, 1) := by decide +kernel
theorem dX3_add_18 : decode cX3_add 18 = .ok (.getfield 9, 3) := by decide +kernel
theorem dX3_add_21 : decode cX3_add 21 = .ok (.aload_n 0, 1) := by decide +kernel
theorem dX3_add_22 : decode cX3_add 22 = .ok (.getfield 25, 3) := by decide +kernel
theorem dX3_add_25 : decode cX3_add 25 = .ok (.iload_n 1, 1) := by decide +kernel
theorem dX3_add_26 : decode cX3_add 26 = .ok (.iastore, 1) := by decide +kernel
theorem dX3_add_27 : decode cX3_add 27 = .ok (.aload_n 0, 1) := by decide +kernel
theorem dX3_add_28 : decode cX3_add 28 = .ok (.dup, 1) := by decide +kernel
theorem dX3_add_29 : decode cX3_add 29 = .ok (.getfield 25, 3) := by decide +kernel
theorem dX3_add_32 : decode cX3_add 32 = .ok (.iconst 1, 1) := by decide +kernel
theorem dX3_add_33 : decode cX3_add 33 = .ok (.iadd, 1) := by decide +kernel
theorem dX3_add_34 : decode cX3_add 34 = .ok (.putfield 25, 3) := by decide +kernel
theorem dX3_add_37 : decode cX3_add 37 = .ok (.return_, 1) := by decide +kernel
theorem dX3_endPart_0 : decode cX3_endPart 0 = .ok (.iload_n 1, 1) := by decide +kernel
theorem dX3_endPart_1 : decode cX3_endPart 1 = .ok (.ifCond .lt 18, 3) := by decide +kernel
theorem dX3_endPart_4 : decode cX3_endPart 4 = .ok (.iload_n 1, 1) := by decide +kernel
theorem dX3_endPart_5 : decode cX3_endPart 5 = .ok (.iconst 3, 1) := by decide +kernel
theorem dX3_endPart_6 : decode cX3_endPart 6 = .ok (.if_icmp .ge 13, 3) := by decide +kernel
theorem dX3_endPart_9 : decode cX3_endPart 9 = .ok (.aload_n 0, 1) := by decide +kernel
theorem dX3_endPart_10 : decode cX3_endPart 10 = .ok (.getfield 15, 3) := by decide +kernel
theorem dX3_endPart_13 : decode cX3_endPart 13 = .ok (.iload_n 1, 1) := by decide +kernel
theorem dX3_endPart_14 : decode cX3_endPart 14 = .ok (.aload_n 0, 1) := by decide +kernel
theorem dX3_endPart_15 : decode cX3_endPart 15 = .ok (.getfield 25, 3) := by decide +kernel
theorem dX3_endPart_18 : decode cX3_endPart 18 = .ok (.iastore, 1) := by decide +kernel
theorem dX3_endPart_19 : decode cX3_endPart 19 = .ok (.return_, 1) := by decide +kernel
theorem dX3_value_0 : decode cX3_value 0 = .ok (.iload_n 1, 1) := by decide +kernel
theorem dX3_value_1 : decode cX3_value 1 = .ok (.ifCond .lt 8, 3) := by decide +kernel
theorem dX3_value_4 : decode cX3_value 4 = .ok (.iload_n 1, 1) := by decide +kernel
theorem dX3_value_5 : decode cX3_value 5 = .ok (.iconst 3, 1) := by decide +kernel
theorem dX3_value_6 : decode cX3_value 6 = .ok (.if_icmp .lt 5, 3) := by decide +kernel
theorem dX3_value_9 : decode cX3_value 9 = .ok (.iconst 0, 1) := by decide +kernel
theorem dX3_value_10 : decode cX3_value 10 = .ok (.ireturn, 1) := by decide +kernel
theorem dX3_value_11 : decode cX3_value 11 = .ok (.iload_n 1, 1) := by decide +kernel
theorem dX3_value_12 : decode cX3_value 12 = .ok (.ifCond .ne 7, 3) := by decide +kernel
theorem dX3_value_15 : decode cX3_value 15 = .ok (.iconst 0, 1) := by decide +kernel
theorem dX3_value_16 : decode cX3_value 16 = .ok (.goto 11, 3) := by decide +kernel
theorem dX3_value_19 : decode cX3_value 19 = .ok (.aload_n 0, 1) := by decide +kernel
theorem dX3_value_20 : decode cX3_value 20 = .ok (.getfield 15, 3) := by decide +kernel
theorem dX3_value_23 : decode cX3_value 23 = .ok (.iload_n 1, 1) := by decide +kernel
theorem dX3_value_24 : decode cX3_value 24 = .ok (.iconst 1, 1) := by decide +kernel
theorem dX3_value_25 : decode cX3_value 25 = .ok (.isub, 1) := by decide +kernel
theorem dX3_value_26 : decode cX3_value 26 = .ok (.iaload, 1) := by decide +kernel
theorem dX3_value_27 : decode cX3_value 27 = .ok (.istore_n 3, 1) := by decide +kernel
theorem dX3_value_28 : decode cX3_value 28 = .ok (.iconst 0, 1) := by decide +kernel
theorem dX3_value_29 : decode cX3_value 29 = .ok (.istore 4, 2) := by decide +kernel
theorem dX3_value_31 : decode cX3_value 31 = .ok (.iload_n 3, 1) := by decide +kernel
theorem dX3_value_32 : decode cX3_value 32 = .ok (.istore 5, 2) := by decide +kernel
theorem dX3_value_34 : decode cX3_value 34 = .ok (.iload 5, 2) := by decide +kernel
theorem dX3_value_36 : decode cX3_value 36 = .ok (.ifCond .lt 181, 3) := by decide +kernel
theorem dX3_value_39 : decode cX3_value 39 = .ok (.iload 5, 2) := by decide +kernel
theorem dX3_value_41 : decode cX3_value 41 = .ok (.aload_n 0, 1) := by decide +kernel
theorem dX3_value_42 : decode cX3_value 42 = .ok (.getfield 15, 3) := by decide +kernel
theorem dX3_value_45 : decode cX3_value 45 = .ok (.iload_n 1, 1) := by decide +kernel
theorem dX3_value_46 : decode cX3_value 46 = .ok (.iaload, 1) := by decide +kernel
theorem dX3_value_47 : decode cX3_value 47 = .ok (.if_icmp .ge 170, 3) := by decide +kernel
theorem dX3_value_50 : decode cX3_value 50 = .ok (.iload 5, 2) := by decide +kernel
theorem dX3_value_52 : decode cX3_value 52 = .ok (.sipush 160, 3) := by decide +kernel
theorem dX3_value_55 : decode cX3_value 55 = .ok (.if_icmp .ge 162, 3) := by decide +kernel
theorem dX3_value_58 : decode cX3_value 58 = .ok (.aload_n 0, 1) := by decide +kernel
theorem dX3_value_59 : decode cX3_value 59 = .ok (.getfield 9, 3) := by decide +kernel
theorem dX3_value_62 : decode cX3_value 62 = .ok (.iload 5, 2) := by decide +kernel
theorem dX3_value_64 : decode cX3_value 64 = .ok (.iaload, 1) := by decide +kernel
theorem dX3_value_65 : decode cX3_value 65 = .ok (.istore 6, 2) := by decide +kernel
theorem dX3_value_67 : decode cX3_value 67 = .ok (.iload 6, 2) := by decide +kernel
theorem dX3_value_69 : decode cX3_value 69 = .ok (.bipush (-6), 2) := by decide +kernel
theorem dX3_value_71 : decode cX3_value 71 = .ok (.if_icmp .lt 31, 3) := by decide +kernel
theorem dX3_value_74 : decode cX3_value 74 = .ok (.iload 4, 2) := by decide +kernel
theorem dX3_value_76 : decode cX3_value 76 = .ok (.bipush 32, 2) := by decide +kernel
theorem dX3_value_78 : decode cX3_value 78 = .ok (.if_icmp .lt 5, 3) := by decide +kernel
theorem dX3_value_81 : decode cX3_value 81 = .ok (.iconst 0, 1) := by decide +kernel
theorem dX3_value_82 : decode cX3_value 82 = .ok (.ireturn, 1) := by decide +kernel
theorem dX3_value_83 : decode cX3_value 83 = .ok (.aload_n 0, 1) := by decide +kernel
theorem dX3_value_84 : decode cX3_value 84 = .ok (.getfield 18, 3) := by decide +kernel
theorem dX3_value_87 : decode cX3_value 87 = .ok (.iload 4, 2) := by decide +kernel
theorem dX3_value_89 : decode cX3_value 89 = .ok (.iload 6, 2) := by decide +kernel
theorem dX3_value_91 : decode cX3_value 91 = .ok (.aload_n 2, 1) := by decide +kernel
theorem dX3_value_92 : decode cX3_value 92 = .ok (.invokestatic 40, 3) := by decide +kernel
theorem dX3_value_95 : decode cX3_value 95 = .ok (.iastore, 1) := by decide +kernel
theorem dX3_value_96 : decode cX3_value 96 = .ok (.iinc 4 1, 3) := by decide +kernel
theorem dX3_value_99 : decode cX3_value 99 = .ok (.goto 112, 3) := by decide +kernel
theorem dX3_value_102 : decode cX3_value 102 = .ok (.iload 6, 2) := by decide +kernel
theorem dX3_value_104 : decode cX3_value 104 = .ok (.bipush (-13), 2) := by decide +kernel
theorem dX3_value_106 : decode cX3_value 106 = .ok (.if_icmp .eq 10, 3) := by decide +kernel
theorem dX3_value_109 : decode cX3_value 109 = .ok (.iload 6, 2) := by decide +kernel
theorem dX3_value_111 : decode cX3_value 111 = .ok (.bipush (-19), 2) := by decide +kernel
theorem dX3_value_113 : decode cX3_value 113 = .ok (.if_icmp .ne 57, 3) := by decide +kernel
theorem dX3_value_116 : decode cX3_value 116 = .ok (.iload 4, 2) := by decide +kernel
theorem dX3_value_118 : decode cX3_value 118 = .ok (.iconst 1, 1) := by decide +kernel
theorem dX3_value_119 : decode cX3_value 119 = .ok (.if_icmp .ge 5, 3) := by decide +kernel
theorem dX3_value_122 : decode cX3_value 122 = .ok (.iconst 0, 1) := by decide +kernel
theorem dX3_value_123 : decode cX3_value 123 = .ok (.ireturn, 1) := by decide +kernel
theorem dX3_value_124 : decode cX3_value 124 = .ok (.aload_n 0, 1) := by decide +kernel
theorem dX3_value_125 : decode cX3_value 125 = .ok (.getfield 18, 3) := by decide +kernel
theorem dX3_value_128 : decode cX3_value 128 = .ok (.iload 4, 2) := by decide +kernel
theorem dX3_value_130 : decode cX3_value 130 = .ok (.iconst 1, 1) := by decide +kernel
theorem dX3_value_131 : decode cX3_value 131 = .ok (.isub, 1) := by decide +kernel
theorem dX3_value_132 : decode cX3_value 132 = .ok (.iaload, 1) := by decide +kernel
theorem dX3_value_133 : decode cX3_value 133 = .ok (.istore 7, 2) := by decide +kernel
theorem dX3_value_135 : decode cX3_value 135 = .ok (.aload_n 0, 1) := by decide +kernel
theorem dX3_value_136 : decode cX3_value 136 = .ok (.getfield 18, 3) := by decide +kernel
theorem dX3_value_139 : decode cX3_value 139 = .ok (.iload 4, 2) := by decide +kernel
theorem dX3_value_141 : decode cX3_value 141 = .ok (.iconst 1, 1) := by decide +kernel
theorem dX3_value_142 : decode cX3_value 142 = .ok (.isub, 1) := by decide +kernel
theorem dX3_value_143 : decode cX3_value 143 = .ok (.iload 6, 2) := by decide +kernel
theorem dX3_value_145 : decode cX3_value 145 = .ok (.bipush (-19), 2) := by decide +kernel
theorem dX3_value_147 : decode cX3_value 147 = .ok (.if_icmp .ne 9, 3) := by decide +kernel
theorem dX3_value_150 : decode cX3_value 150 = .ok (.iload 7, 2) := by decide +kernel
theorem dX3_value_152 : decode cX3_value 152 = .ok (.ineg, 1) := by decide +kernel
theorem dX3_value_153 : decode cX3_value 153 = .ok (.goto 13, 3) := by decide +kernel
theorem dX3_value_156 : decode cX3_value 156 = .ok (.iload 7, 2) := by decide +kernel
theorem dX3_value_158 : decode cX3_value 158 = .ok (.ifCond .ne 7, 3) := by decide +kernel
theorem dX3_value_161 : decode cX3_value 161 = .ok (.iconst 1, 1) := by decide +kernel
theorem dX3_value_162 : decode cX3_value 162 = .ok (.goto 4, 3) := by decide +kernel
theorem dX3_value_165 : decode cX3_value 165 = .ok (.iconst 0, 1) := by decide +kernel
theorem dX3_value_166 : decode cX3_value 166 = .ok (.iastore, 1) := by decide +kernel
theorem dX3_value_167 : decode cX3_value 167 = .ok (.goto 44, 3) := by decide +kernel
theorem dX3_value_170 : decode cX3_value 170 = .ok (.iload 4, 2) := by decide +kernel
theorem dX3_value_172 : decode cX3_value 172 = .ok (.iconst 2, 1) := by decide +kernel
theorem dX3_value_173 : decode cX3_value 173 = .ok (.if_icmp .ge 5, 3) := by decide +kernel
theorem dX3_value_176 : decode cX3_value 176 = .ok (.iconst 0, 1) := by decide +kernel
theorem dX3_value_177 : decode cX3_value 177 = .ok (.ireturn, 1) := by decide +kernel
theorem dX3_value_178 : decode cX3_value 178 = .ok (.iinc 4 (-1), 3) := by decide +kernel
theorem dX3_value_181 : decode cX3_value 181 = .ok (.aload_n 0, 1) := by decide +kernel
theorem dX3_value_182 : decode cX3_value 182 = .ok (.getfield 18, 3) := by decide +kernel
theorem dX3_value_185 : decode cX3_value 185 = .ok (.iload 4, 2) := by decide +kernel
theorem dX3_value_187 : decode cX3_value 187 = .ok (.iconst 1, 1) := by decide +kernel
theorem dX3_value_188 : decode cX3_value 188 = .ok (.isub, 1) := by decide +kernel
theorem dX3_value_189 : decode cX3_value 189 = .ok (.iload 6, 2) := by decide +kernel
theorem dX3_value_191 : decode cX3_value 191 = .ok (.aload_n 0, 1) := by decide +kernel
theorem dX3_value_192 : decode cX3_value 192 = .ok (.getfield 18, 3) := by decide +kernel
theorem dX3_value_195 : decode cX3_value 195 = .ok (.iload 4, 2) := by decide +kernel
theorem dX3_value_197 : decode cX3_value 197 = .ok (.iconst 1, 1) := by decide +kernel
theorem dX3_value_198 : decode cX3_value 198 = .ok (.isub, 1) := by decide +kernel
theorem dX3_value_199 : decode cX3_value 199 = .ok (.iaload, 1) := by decide +kernel
theorem dX3_value_200 : decode cX3_value 200 = .ok (.aload_n 0, 1) := by decide +kernel
theorem dX3_value_201 : decode cX3_value 201 = .ok (.getfield 18, 3) := by decide +kernel
theorem dX3_value_204 : decode cX3_value 204 = .ok (.iload 4, 2) := by decide +kernel
theorem dX3_value_206 : decode cX3_value 206 = .ok (.iaload, 1) := by decide +kernel
theorem dX3_value_207 : decode cX3_value 207 = .ok (.invokestatic 44, 3) := by decide +kernel
theorem dX3_value_210 : decode cX3_value 210 = .ok (.iastore, 1) := by decide +kernel
theorem dX3_value_211 : decode cX3_value 211 = .ok (.iinc 5 1, 3) := by decide +kernel
theorem dX3_value_214 : decode cX3_value 214 = .ok (.goto (-180), 3) := by decide +kernel
theorem dX3_value_217 : decode cX3_value 217 = .ok (.iload 4, 2) := by decide +kernel
theorem dX3_value_219 : decode cX3_value 219 = .ok (.ifCond .le 12, 3) := by decide +kernel
theorem dX3_value_222 : decode cX3_value 222 = .ok (.aload_n 0, 1) := by decide +kernel
theorem dX3_value_223 : decode cX3_value 223 = .ok (.getfield 18, 3) := by decide +kernel
theorem dX3_value_226 : decode cX3_value 226 = .ok (.iconst 0, 1) := by decide +kernel
theorem dX3_value_227 : decode cX3_value 227 = .ok (.iaload, 1) := by decide +kernel
theorem dX3_value_228 : decode cX3_value 228 = .ok (.goto 4, 3) := by decide +kernel
theorem dX3_value_231 : decode cX3_value 231 = .ok (.iconst 0, 1) := by decide +kernel
theorem dX3_value_232 : decode cX3_value 232 = .ok (.ireturn, 1) := by decide +kernel
theorem dX3_named_0 : decode cX3_named 0 = .ok (.iload_n 0, 1) := by decide +kernel
theorem dX3_named_1 : decode cX3_named 1 = .ok (.ifCond .lt 5, 3) := by decide +kernel
theorem dX3_named_4 : decode cX3_named 4 = .ok (.iload_n 0, 1) := by decide +kernel
theorem dX3_named_5 : decode cX3_named 5 = .ok (.ireturn, 1) := by decide +kernel
theorem dX3_named_6 : decode cX3_named 6 = .ok (.iconst (-1), 1) := by decide +kernel
theorem dX3_named_7 : decode cX3_named 7 = .ok (.iload_n 0, 1) := by decide +kernel
theorem dX3_named_8 : decode cX3_named 8 = .ok (.isub, 1) := by decide +kernel
theorem dX3_named_9 : decode cX3_named 9 = .ok (.aload_n 1, 1) := by decide +kernel
theorem dX3_named_10 : decode cX3_named 10 = .ok (.arraylength, 1) := by decide +kernel
theorem dX3_named_11 : decode cX3_named 11 = .ok (.if_icmp .ge 11, 3) := by decide +kernel
theorem dX3_named_14 : decode cX3_named 14 = .ok (.aload_n 1, 1) := by decide +kernel
theorem dX3_named_15 : decode cX3_named 15 = .ok (.iconst (-1), 1) := by decide +kernel
theorem dX3_named_16 : decode cX3_named 16 = .ok (.iload_n 0, 1) := by decide +kernel
theorem dX3_named_17 : decode cX3_named 17 = .ok (.isub, 1) := by decide +kernel
theorem dX3_named_18 : decode cX3_named 18 = .ok (.iaload, 1) := by decide +kernel
theorem dX3_named_19 : decode cX3_named 19 = .ok (.goto 4, 3) := by decide +kernel
theorem dX3_named_22 : decode cX3_named 22 = .ok (.iconst 0, 1) := by decide +kernel
theorem dX3_named_23 : decode cX3_named 23 = .ok (.ireturn, 1) := by decide +kernel
theorem dX3_joined_0 : decode cX3_joined 0 = .ok (.iload_n 0, 1) := by decide +kernel
theorem dX3_joined_1 : decode cX3_joined 1 = .ok (.tableswitch 109 (-18) (-11) #[105, 101, 97, 86, 75, 109, 61, 47], 47) := by decide +kernel
theorem dX3_joined_48 : decode cX3_joined 48 = .ok (.iload_n 1, 1) := by decide +kernel
theorem dX3_joined_49 : decode cX3_joined 49 = .ok (.ifCond .ne 7, 3) := by decide +kernel
theorem dX3_joined_52 : decode cX3_joined 52 = .ok (.iload_n 2, 1) := by decide +kernel
theorem dX3_joined_53 : decode cX3_joined 53 = .ok (.ifCond .eq 7, 3) := by decide +kernel
theorem dX3_joined_56 : decode cX3_joined 56 = .ok (.iconst 1, 1) := by decide +kernel
theorem dX3_joined_57 : decode cX3_joined 57 = .ok (.goto 4, 3) := by decide +kernel
theorem dX3_joined_60 : decode cX3_joined 60 = .ok (.iconst 0, 1) := by decide +kernel
theorem dX3_joined_61 : decode cX3_joined 61 = .ok (.ireturn, 1) := by decide +kernel
theorem dX3_joined_62 : decode cX3_joined 62 = .ok (.iload_n 1, 1) := by decide +kernel
theorem dX3_joined_63 : decode cX3_joined 63 = .ok (.ifCond .eq 11, 3) := by decide +kernel
theorem dX3_joined_66 : decode cX3_joined 66 = .ok (.iload_n 2, 1) := by decide +kernel
theorem dX3_joined_67 : decode cX3_joined 67 = .ok (.ifCond .eq 7, 3) := by decide +kernel
theorem dX3_joined_70 : decode cX3_joined 70 = .ok (.iconst 1, 1) := by decide +kernel
theorem dX3_joined_71 : decode cX3_joined 71 = .ok (.goto 4, 3) := by decide +kernel
theorem dX3_joined_74 : decode cX3_joined 74 = .ok (.iconst 0, 1) := by decide +kernel
theorem dX3_joined_75 : decode cX3_joined 75 = .ok (.ireturn, 1) := by decide +kernel
theorem dX3_joined_76 : decode cX3_joined 76 = .ok (.iload_n 1, 1) := by decide +kernel
theorem dX3_joined_77 : decode cX3_joined 77 = .ok (.iload_n 2, 1) := by decide +kernel
theorem dX3_joined_78 : decode cX3_joined 78 = .ok (.if_icmp .ge 7, 3) := by decide +kernel
theorem dX3_joined_81 : decode cX3_joined 81 = .ok (.iconst 1, 1) := by decide +kernel
theorem dX3_joined_82 : decode cX3_joined 82 = .ok (.goto 4, 3) := by decide +kernel
theorem dX3_joined_85 : decode cX3_joined 85 = .ok (.iconst 0, 1) := by decide +kernel
theorem dX3_joined_86 : decode cX3_joined 86 = .ok (.ireturn, 1) := by decide +kernel
theorem dX3_joined_87 : decode cX3_joined 87 = .ok (.iload_n 1, 1) := by decide +kernel
theorem dX3_joined_88 : decode cX3_joined 88 = .ok (.iload_n 2, 1) := by decide +kernel
theorem dX3_joined_89 : decode cX3_joined 89 = .ok (.if_icmp .ne 7, 3) := by decide +kernel
theorem dX3_joined_92 : decode cX3_joined 92 = .ok (.iconst 1, 1) := by decide +kernel
theorem dX3_joined_93 : decode cX3_joined 93 = .ok (.goto 4, 3) := by decide +kernel
theorem dX3_joined_96 : decode cX3_joined 96 = .ok (.iconst 0, 1) := by decide +kernel
theorem dX3_joined_97 : decode cX3_joined 97 = .ok (.ireturn, 1) := by decide +kernel
theorem dX3_joined_98 : decode cX3_joined 98 = .ok (.iload_n 1, 1) := by decide +kernel
theorem dX3_joined_99 : decode cX3_joined 99 = .ok (.iload_n 2, 1) := by decide +kernel
theorem dX3_joined_100 : decode cX3_joined 100 = .ok (.iadd, 1) := by decide +kernel
theorem dX3_joined_101 : decode cX3_joined 101 = .ok (.ireturn, 1) := by decide +kernel
theorem dX3_joined_102 : decode cX3_joined 102 = .ok (.iload_n 1, 1) := by decide +kernel
theorem dX3_joined_103 : decode cX3_joined 103 = .ok (.iload_n 2, 1) := by decide +kernel
theorem dX3_joined_104 : decode cX3_joined 104 = .ok (.isub, 1) := by decide +kernel
theorem dX3_joined_105 : decode cX3_joined 105 = .ok (.ireturn, 1) := by decide +kernel
theorem dX3_joined_106 : decode cX3_joined 106 = .ok (.iload_n 1, 1) := by decide +kernel
theorem dX3_joined_107 : decode cX3_joined 107 = .ok (.iload_n 2, 1) := by decide +kernel
theorem dX3_joined_108 : decode cX3_joined 108 = .ok (.imul, 1) := by decide +kernel
theorem dX3_joined_109 : decode cX3_joined 109 = .ok (.ireturn, 1) := by decide +kernel
theorem dX3_joined_110 : decode cX3_joined 110 = .ok (.iconst 0, 1) := by decide +kernel
theorem dX3_joined_111 : decode cX3_joined 111 = .ok (.ireturn, 1) := by decide +kernel
theorem dX4_init_0 : decode cX4_init 0 = .ok (.aload_n 0, 1) := by decide +kernel
theorem dX4_init_1 : decode cX4_init 1 = .ok (.invokespecial 3, 3) := by decide +kernel
theorem dX4_init_4 : decode cX4_init 4 = .ok (.aload_n 0, 1) := by decide +kernel
theorem dX4_init_5 : decode cX4_init 5 = .ok (.new 9, 3) := by decide +kernel
theorem dX4_init_8 : decode cX4_init 8 = .ok (.dup, 1) := by decide +kernel
theorem dX4_init_9 : decode cX4_init 9 = .ok (.invokespecial 11, 3) := by decide +kernel
theorem dX4_init_12 : decode cX4_init 12 = .ok (.putfield 12, 3) := by decide +kernel
theorem dX4_init_15 : decode cX4_init 15 = .ok (.aload_n 0, 1) := by decide +kernel
theorem dX4_init_16 : decode cX4_init 16 = .ok (.iconst 4, 1) := by decide +kernel
theorem dX4_init_17 : decode cX4_init 17 = .ok (.anewarray 9, 3) := by decide +kernel
theorem dX4_init_20 : decode cX4_init 20 = .ok (.putfield 18, 3) := by decide +kernel
theorem dX4_init_23 : decode cX4_init 23 = .ok (.aload_n 0, 1) := by decide +kernel
theorem dX4_init_24 : decode cX4_init 24 = .ok (.new 22, 3) := by decide +kernel
theorem dX4_init_27 : decode cX4_init 27 = .ok (.dup, 1) := by decide +kernel
theorem dX4_init_28 : decode cX4_init 28 = .ok (.aload_n 1, 1) := by decide +kernel
theorem dX4_init_29 : decode cX4_init 29 = .ok (.invokespecial 24, 3) := by decide +kernel
theorem dX4_init_32 : decode cX4_init 32 = .ok (.putfield 27, 3) := by decide +kernel
theorem dX4_init_35 : decode cX4_init 35 = .ok (.iconst 0, 1) := by decide +kernel
theorem dX4_init_36 : decode cX4_init 36 = .ok (.istore_n 2, 1) := by decide +kernel
theorem dX4_init_37 : decode cX4_init 37 = .ok (.iload_n 2, 1) := by decide +kernel
theorem dX4_init_38 : decode cX4_init 38 = .ok (.iconst 3, 1) := by decide +kernel
theorem dX4_init_39 : decode cX4_init 39 = .ok (.if_icmp .gt 22, 3) := by decide +kernel
theorem dX4_init_42 : decode cX4_init 42 = .ok (.aload_n 0, 1) := by decide +kernel
theorem dX4_init_43 : decode cX4_init 43 = .ok (.getfield 18, 3) := by decide +kernel
theorem dX4_init_46 : decode cX4_init 46 = .ok (.iload_n 2, 1) := by decide +kernel
theorem dX4_init_47 : decode cX4_init 47 = .ok (.new 9, 3) := by decide +kernel
theorem dX4_init_50 : decode cX4_init 50 = .ok (.dup, 1) := by decide +kernel
theorem dX4_init_51 : decode cX4_init 51 = .ok (.invokespecial 11, 3) := by decide +kernel
theorem dX4_init_54 : decode cX4_init 54 = .ok (.aastore, 1) := by decide +kernel
theorem dX4_init_55 : decode cX4_init 55 = .ok (.iinc 2 1, 3) := by decide +kernel
theorem dX4_init_58 : decode cX4_init 58 = .ok (.goto (-21), 3) := by decide +kernel
theorem dX4_init_61 : decode cX4_init 61 = .ok (.return_, 1) := by decide +kernel
theorem dX4_begin_0 : decode cX4_begin 0 = .ok (.aload_n 0, 1) := by decide +kernel
theorem dX4_begin_1 : decode cX4_begin 1 = .ok (.getfield 27, 3) := by decide +kernel
theorem dX4_begin_4 : decode cX4_begin 4 = .ok (.aload_n 1, 1) := by decide +kernel
theorem dX4_begin_5 : decode cX4_begin 5 = .ok (.invokevirtual 31, 3) := by decide +kernel
theorem dX4_begin_8 : decode cX4_begin 8 = .ok (.aload_n 0, 1) := by decide +kernel
theorem dX4_begin_9 : decode cX4_begin 9 = .ok (.getfield 12, 3) := by decide +kernel
theorem dX4_begin_12 : decode cX4_begin 12 = .ok (.aload_n 2, 1) := by decide +kernel
theorem dX4_begin_13 : decode cX4_begin 13 = .ok (.invokevirtual 35, 3) := by decide +kernel
theorem dX4_begin_16 : decode cX4_begin 16 = .ok (.return_, 1) := by decide +kernel
theorem dX4_bestHour_0 : decode cX4_bestHour 0 = .ok (.iconst (-1), 1) := by decide +kernel
theorem dX4_bestHour_1 : decode cX4_bestHour 1 = .ok (.istore 4, 2) := by decide +kernel
theorem dX4_bestHour_3 : decode cX4_bestHour 3 = .ok (.iconst 0, 1) := by decide +kernel
theorem dX4_bestHour_4 : decode cX4_bestHour 4 = .ok (.istore 5, 2) := by decide +kernel
theorem dX4_bestHour_6 : decode cX4_bestHour 6 = .ok (.iconst 0, 1) := by decide +kernel
theorem dX4_bestHour_7 : decode cX4_bestHour 7 = .ok (.istore 6, 2) := by decide +kernel
theorem dX4_bestHour_9 : decode cX4_bestHour 9 = .ok (.iload 6, 2) := by decide +kernel
theorem dX4_bestHour_11 : decode cX4_bestHour 11 = .ok (.bipush 8, 2) := by decide +kernel
theorem dX4_bestHour_13 : decode cX4_bestHour 13 = .ok (.if_icmp .ge 75, 3) := by decide +kernel
theorem dX4_bestHour_16 : decode cX4_bestHour 16 = .ok (.iconst 0, 1) := by decide +kernel
theorem dX4_bestHour_17 : decode cX4_bestHour 17 = .ok (.istore 7, 2) := by decide +kernel
theorem dX4_bestHour_19 : decode cX4_bestHour 19 = .ok (.iload 7, 2) := by decide +kernel
theorem dX4_bestHour_21 : decode cX4_bestHour 21 = .ok (.iconst 3, 1) := by decide +kernel
theorem dX4_bestHour_22 : decode cX4_bestHour 22 = .ok (.if_icmp .ge 60, 3) := by decide +kernel
theorem dX4_bestHour_25 : decode cX4_bestHour 25 = .ok (.aload_n 0, 1) := by decide +kernel
theorem dX4_bestHour_26 : decode cX4_bestHour 26 = .ok (.aload_n 1, 1) := by decide +kernel
theorem dX4_bestHour_27 : decode cX4_bestHour 27 = .ok (.aload_n 2, 1) := by decide +kernel
theorem dX4_bestHour_28 : decode cX4_bestHour 28 = .ok (.invokevirtual 38, 3) := by decide +kernel
theorem dX4_bestHour_31 : decode cX4_bestHour 31 = .ok (.aload_n 0, 1) := by decide +kernel
theorem dX4_bestHour_32 : decode cX4_bestHour 32 = .ok (.getfield 27, 3) := by decide +kernel
theorem dX4_bestHour_35 : decode cX4_bestHour 35 = .ok (.aload_n 0, 1) := by decide +kernel
theorem dX4_bestHour_36 : decode cX4_bestHour 36 = .ok (.getfield 12, 3) := by decide +kernel
theorem dX4_bestHour_39 : decode cX4_bestHour 39 = .ok (.iload 6, 2) := by decide +kernel
theorem dX4_bestHour_41 : decode cX4_bestHour 41 = .ok (.iload 7, 2) := by decide +kernel
theorem dX4_bestHour_43 : decode cX4_bestHour 43 = .ok (.invokevirtual 42, 3) := by decide +kernel
theorem dX4_bestHour_46 : decode cX4_bestHour 46 = .ok (.aload_n 0, 1) := by decide +kernel
theorem dX4_bestHour_47 : decode cX4_bestHour 47 = .ok (.getfield 12, 3) := by decide +kernel
theorem dX4_bestHour_50 : decode cX4_bestHour 50 = .ok (.invokevirtual 46, 3) := by decide +kernel
theorem dX4_bestHour_53 : decode cX4_bestHour 53 = .ok (.istore 8, 2) := by decide +kernel
theorem dX4_bestHour_55 : decode cX4_bestHour 55 = .ok (.iload 8, 2) := by decide +kernel
theorem dX4_bestHour_57 : decode cX4_bestHour 57 = .ok (.iload 4, 2) := by decide +kernel
theorem dX4_bestHour_59 : decode cX4_bestHour 59 = .ok (.if_icmp .le 17, 3) := by decide +kernel
theorem dX4_bestHour_62 : decode cX4_bestHour 62 = .ok (.iload 8, 2) := by decide +kernel
theorem dX4_bestHour_64 : decode cX4_bestHour 64 = .ok (.istore 4, 2) := by decide +kernel
theorem dX4_bestHour_66 : decode cX4_bestHour 66 = .ok (.bipush 10, 2) := by decide +kernel
theorem dX4_bestHour_68 : decode cX4_bestHour 68 = .ok (.iload 6, 2) := by decide +kernel
theorem dX4_bestHour_70 : decode cX4_bestHour 70 = .ok (.imul, 1) := by decide +kernel
theorem dX4_bestHour_71 : decode cX4_bestHour 71 = .ok (.iload 7, 2) := by decide +kernel
theorem dX4_bestHour_73 : decode cX4_bestHour 73 = .ok (.iadd, 1) := by decide +kernel
theorem dX4_bestHour_74 : decode cX4_bestHour 74 = .ok (.istore 5, 2) := by decide +kernel
theorem dX4_bestHour_76 : decode cX4_bestHour 76 = .ok (.iinc 7 1, 3) := by decide +kernel
theorem dX4_bestHour_79 : decode cX4_bestHour 79 = .ok (.goto (-60), 3) := by decide +kernel
theorem dX4_bestHour_82 : decode cX4_bestHour 82 = .ok (.iinc 6 1, 3) := by decide +kernel
theorem dX4_bestHour_85 : decode cX4_bestHour 85 = .ok (.goto (-76), 3) := by decide +kernel
theorem dX4_bestHour_88 : decode cX4_bestHour 88 = .ok (.iload_n 3, 1) := by decide +kernel
theorem dX4_bestHour_89 : decode cX4_bestHour 89 = .ok (.ifCond .eq 8, 3) := by decide +kernel
theorem dX4_bestHour_92 : decode cX4_bestHour 92 = .ok (.iload 5, 2) := by decide +kernel
theorem dX4_bestHour_94 : decode cX4_bestHour 94 = .ok (.goto 5, 3) := by decide +kernel
theorem dX4_bestHour_97 : decode cX4_bestHour 97 = .ok (.iload 4, 2) := by decide +kernel
theorem dX4_bestHour_99 : decode cX4_bestHour 99 = .ok (.ireturn, 1) := by decide +kernel
theorem dX4_beginRows_0 : decode cX4_beginRows 0 = .ok (.aload_n 0, 1) := by decide +kernel
theorem dX4_beginRows_1 : decode cX4_beginRows 1 = .ok (.aload_n 1, 1) := by decide +kernel
theorem dX4_beginRows_2 : decode cX4_beginRows 2 = .ok (.aload_n 2, 1) := by decide +kernel
theorem dX4_beginRows_3 : decode cX4_beginRows 3 = .ok (.invokevirtual 38, 3) := by decide +kernel
theorem dX4_beginRows_6 : decode cX4_beginRows 6 = .ok (.aload_n 0, 1) := by decide +kernel
theorem dX4_beginRows_7 : decode cX4_beginRows 7 = .ok (.getfield 18, 3) := by decide +kernel
theorem dX4_beginRows_10 : decode cX4_beginRows 10 = .ok (.iconst 0, 1) := by decide +kernel
theorem dX4_beginRows_11 : decode cX4_beginRows 11 = .ok (.aaload, 1) := by decide +kernel
theorem dX4_beginRows_12 : decode cX4_beginRows 12 = .ok (.aload_n 2, 1) := by decide +kernel
theorem dX4_beginRows_13 : decode cX4_beginRows 13 = .ok (.invokevirtual 35, 3) := by decide +kernel
theorem dX4_beginRows_16 : decode cX4_beginRows 16 = .ok (.aload_n 0, 1) := by decide +kernel
theorem dX4_beginRows_17 : decode cX4_beginRows 17 = .ok (.iconst 0, 1) := by decide +kernel
theorem dX4_beginRows_18 : decode cX4_beginRows 18 = .ok (.putfield 50, 3) := by decide +kernel
theorem dX4_beginRows_21 : decode cX4_beginRows 21 = .ok (.aload_n 0, 1) := by decide +kernel
theorem dX4_beginRows_22 : decode cX4_beginRows 22 = .ok (.iconst (-1), 1) := by decide +kernel
theorem dX4_beginRows_23 : decode cX4_beginRows 23 = .ok (.putfield 54, 3) := by decide +kernel
theorem dX4_beginRows_26 : decode cX4_beginRows 26 = .ok (.aload_n 0, 1) := by decide +kernel
theorem dX4_beginRows_27 : decode cX4_beginRows 27 = .ok (.iconst 0, 1) := by decide +kernel
theorem dX4_beginRows_28 : decode cX4_beginRows 28 = .ok (.putfield 57, 3) := by decide +kernel
theorem dX4_beginRows_31 : decode cX4_beginRows 31 = .ok (.return_, 1) := by decide +kernel
theorem dX4_tryRows_0 : decode cX4_tryRows 0 = .ok (.iload_n 1, 1) := by decide +kernel
theorem dX4_tryRows_1 : decode cX4_tryRows 1 = .ok (.ifCond .lt 8, 3) := by decide +kernel
theorem dX4_tryRows_4 : decode cX4_tryRows 4 = .ok (.iload_n 1, 1) := by decide +kernel
theorem dX4_tryRows_5 : decode cX4_tryRows 5 = .ok (.iconst 3, 1) := by decide +kernel
theorem dX4_tryRows_6 : decode cX4_tryRows 6 = .ok (.if_icmp .le 4, 3) := by decide +kernel
theorem dX4_tryRows_9 : decode cX4_tryRows 9 = .ok (.return_, 1) := by decide +kernel
theorem dX4_tryRows_10 : decode cX4_tryRows 10 = .ok (.iload_n 1, 1) := by decide +kernel
theorem dX4_tryRows_11 : decode cX4_tryRows 11 = .ok (.iload_n 2, 1) := by decide +kernel
theorem dX4_tryRows_12 : decode cX4_tryRows 12 = .ok (.if_icmp .ge 79, 3) := by decide +kernel
theorem dX4_tryRows_15 : decode cX4_tryRows 15 = .ok (.iload_n 1, 1) := by decide +kernel
theorem dX4_tryRows_16 : decode cX4_tryRows 16 = .ok (.iconst 3, 1) := by decide +kernel
theorem dX4_tryRows_17 : decode cX4_tryRows 17 = .ok (.if_icmp .ge 74, 3) := by decide +kernel
theorem dX4_tryRows_20 : decode cX4_tryRows 20 = .ok (.iconst 0, 1) := by decide +kernel
theorem dX4_tryRows_21 : decode cX4_tryRows 21 = .ok (.istore 5, 2) := by decide +kernel
theorem dX4_tryRows_23 : decode cX4_tryRows 23 = .ok (.iload 5, 2) := by decide +kernel
theorem dX4_tryRows_25 : decode cX4_tryRows 25 = .ok (.bipush 8, 2) := by decide +kernel
theorem dX4_tryRows_27 : decode cX4_tryRows 27 = .ok (.if_icmp .ge 63, 3) := by decide +kernel
theorem dX4_tryRows_30 : decode cX4_tryRows 30 = .ok (.aload_n 0, 1) := by decide +kernel
theorem dX4_tryRows_31 : decode cX4_tryRows 31 = .ok (.getfield 18, 3) := by decide +kernel
theorem dX4_tryRows_34 : decode cX4_tryRows 34 = .ok (.iload_n 1, 1) := by decide +kernel
theorem dX4_tryRows_35 : decode cX4_tryRows 35 = .ok (.iconst 1, 1) := by decide +kernel
theorem dX4_tryRows_36 : decode cX4_tryRows 36 = .ok (.iadd, 1) := by decide +kernel
theorem dX4_tryRows_37 : decode cX4_tryRows 37 = .ok (.aaload, 1) := by decide +kernel
theorem dX4_tryRows_38 : decode cX4_tryRows 38 = .ok (.aload_n 0, 1) := by decide +kernel
theorem dX4_tryRows_39 : decode cX4_tryRows 39 = .ok (.getfield 18, 3) := by decide +kernel
theorem dX4_tryRows_42 : decode cX4_tryRows 42 = .ok (.iload_n 1, 1) := by decide +kernel
theorem dX4_tryRows_43 : decode cX4_tryRows 43 = .ok (.aaload, 1) := by decide +kernel
theorem dX4_tryRows_44 : decode cX4_tryRows 44 = .ok (.invokevirtual 35, 3) := by decide +kernel
theorem dX4_tryRows_47 : decode cX4_tryRows 47 = .ok (.aload_n 0, 1) := by decide +kernel
theorem dX4_tryRows_48 : decode cX4_tryRows 48 = .ok (.getfield 27, 3) := by decide +kernel
theorem dX4_tryRows_51 : decode cX4_tryRows 51 = .ok (.aload_n 0, 1) := by decide +kernel
theorem dX4_tryRows_52 : decode cX4_tryRows 52 = .ok (.getfield 18, 3) := by decide +kernel
theorem dX4_tryRows_55 : decode cX4_tryRows 55 = .ok (.iload_n 1, 1) := by decide +kernel
theorem dX4_tryRows_56 : decode cX4_tryRows 56 = .ok (.iconst 1, 1) := by decide +kernel
theorem dX4_tryRows_57 : decode cX4_tryRows 57 = .ok (.iadd, 1) := by decide +kernel
theorem dX4_tryRows_58 : decode cX4_tryRows 58 = .ok (.aaload, 1) := by decide +kernel
theorem dX4_tryRows_59 : decode cX4_tryRows 59 = .ok (.iload 5, 2) := by decide +kernel
theorem dX4_tryRows_61 : decode cX4_tryRows 61 = .ok (.iload_n 3, 1) := by decide +kernel
theorem dX4_tryRows_62 : decode cX4_tryRows 62 = .ok (.invokevirtual 42, 3) := by decide +kernel
theorem dX4_tryRows_65 : decode cX4_tryRows 65 = .ok (.aload_n 0, 1) := by decide +kernel
theorem dX4_tryRows_66 : decode cX4_tryRows 66 = .ok (.iload_n 1, 1) := by decide +kernel
theorem dX4_tryRows_67 : decode cX4_tryRows 67 = .ok (.iconst 1, 1) := by decide +kernel
theorem dX4_tryRows_68 : decode cX4_tryRows 68 = .ok (.iadd, 1) := by decide +kernel
theorem dX4_tryRows_69 : decode cX4_tryRows 69 = .ok (.iload_n 2, 1) := by decide +kernel
theorem dX4_tryRows_70 : decode cX4_tryRows 70 = .ok (.iload_n 3, 1) := by decide +kernel
theorem dX4_tryRows_71 : decode cX4_tryRows 71 = .ok (.bipush 10, 2) := by decide +kernel
theorem dX4_tryRows_73 : decode cX4_tryRows 73 = .ok (.iload 4, 2) := by decide +kernel
theorem dX4_tryRows_75 : decode cX4_tryRows 75 = .ok (.imul, 1) := by decide +kernel
theorem dX4_tryRows_76 : decode cX4_tryRows 76 = .ok (.iload 5, 2) := by decide +kernel
theorem dX4_tryRows_78 : decode cX4_tryRows 78 = .ok (.iadd, 1) := by decide +kernel
theorem dX4_tryRows_79 : decode cX4_tryRows 79 = .ok (.iconst 1, 1) := by decide +kernel
theorem dX4_tryRows_80 : decode cX4_tryRows 80 = .ok (.iadd, 1) := by decide +kernel
theorem dX4_tryRows_81 : decode cX4_tryRows 81 = .ok (.invokevirtual 60, 3) := by decide +kernel
theorem dX4_tryRows_84 : decode cX4_tryRows 84 = .ok (.iinc 5 1, 3) := by decide +kernel
theorem dX4_tryRows_87 : decode cX4_tryRows 87 = .ok (.goto (-64), 3) := by decide +kernel
theorem dX4_tryRows_90 : decode cX4_tryRows 90 = .ok (.return_, 1) := by decide +kernel
theorem dX4_tryRows_91 : decode cX4_tryRows 91 = .ok (.aload_n 0, 1) := by decide +kernel
theorem dX4_tryRows_92 : decode cX4_tryRows 92 = .ok (.getfield 27, 3) := by decide +kernel
theorem dX4_tryRows_95 : decode cX4_tryRows 95 = .ok (.aload_n 0, 1) := by decide +kernel
theorem dX4_tryRows_96 : decode cX4_tryRows 96 = .ok (.getfield 18, 3) := by decide +kernel
theorem dX4_tryRows_99 : decode cX4_tryRows 99 = .ok (.iload_n 1, 1) := by decide +kernel
theorem dX4_tryRows_100 : decode cX4_tryRows 100 = .ok (.aaload, 1) := by decide +kernel
theorem dX4_tryRows_101 : decode cX4_tryRows 101 = .ok (.invokevirtual 64, 3) := by decide +kernel
theorem dX4_tryRows_104 : decode cX4_tryRows 104 = .ok (.istore 5, 2) := by decide +kernel
theorem dX4_tryRows_106 : decode cX4_tryRows 106 = .ok (.iload 5, 2) := by decide +kernel
theorem dX4_tryRows_108 : decode cX4_tryRows 108 = .ok (.aload_n 0, 1) := by decide +kernel
theorem dX4_tryRows_109 : decode cX4_tryRows 109 = .ok (.getfield 54, 3) := by decide +kernel
theorem dX4_tryRows_112 : decode cX4_tryRows 112 = .ok (.if_icmp .le 36, 3) := by decide +kernel
theorem dX4_tryRows_115 : decode cX4_tryRows 115 = .ok (.aload_n 0, 1) := by decide +kernel
theorem dX4_tryRows_116 : decode cX4_tryRows 116 = .ok (.iload 5, 2) := by decide +kernel
theorem dX4_tryRows_118 : decode cX4_tryRows 118 = .ok (.putfield 54, 3) := by decide +kernel
theorem dX4_tryRows_121 : decode cX4_tryRows 121 = .ok (.aload_n 0, 1) := by decide +kernel
theorem dX4_tryRows_122 : decode cX4_tryRows 122 = .ok (.iload 4, 2) := by decide +kernel
theorem dX4_tryRows_124 : decode cX4_tryRows 124 = .ok (.putfield 50, 3) := by decide +kernel
theorem dX4_tryRows_127 : decode cX4_tryRows 127 = .ok (.aload_n 0, 1) := by decide +kernel
theorem dX4_tryRows_128 : decode cX4_tryRows 128 = .ok (.aload_n 0, 1) := by decide +kernel
theorem dX4_tryRows_129 : decode cX4_tryRows 129 = .ok (.getfield 18, 3) := by decide +kernel
theorem dX4_tryRows_132 : decode cX4_tryRows 132 = .ok (.iload_n 1, 1) := by decide +kernel
theorem dX4_tryRows_133 : decode cX4_tryRows 133 = .ok (.aaload, 1) := by decide +kernel
theorem dX4_tryRows_134 : decode cX4_tryRows 134 = .ok (.getfield 68, 3) := by decide +kernel
theorem dX4_tryRows_137 : decode cX4_tryRows 137 = .ok (.aload_n 0, 1) := by decide +kernel
theorem dX4_tryRows_138 : decode cX4_tryRows 138 = .ok (.getfield 12, 3) := by decide +kernel
theorem dX4_tryRows_141 : decode cX4_tryRows 141 = .ok (.getfield 68, 3) := by decide +kernel
theorem dX4_tryRows_144 : decode cX4_tryRows 144 = .ok (.isub, 1) := by decide +kernel
theorem dX4_tryRows_145 : decode cX4_tryRows 145 = .ok (.putfield 57, 3) := by decide +kernel
theorem dX4_tryRows_148 : decode cX4_tryRows 148 = .ok (.return_, 1) := by decide +kernel
theorem dX4_daysTill_0 : decode cX4_daysTill 0 = .ok (.aload_n 0, 1) := by decide +kernel
theorem dX4_daysTill_1 : decode cX4_daysTill 1 = .ok (.aload_n 1, 1) := by decide +kernel
theorem dX4_daysTill_2 : decode cX4_daysTill 2 = .ok (.aload_n 2, 1) := by decide +kernel
theorem dX4_daysTill_3 : decode cX4_daysTill 3 = .ok (.invokevirtual 38, 3) := by decide +kernel
theorem dX4_daysTill_6 : decode cX4_daysTill 6 = .ok (.aload_n 0, 1) := by decide +kernel
theorem dX4_daysTill_7 : decode cX4_daysTill 7 = .ok (.getfield 27, 3) := by decide +kernel
theorem dX4_daysTill_10 : decode cX4_daysTill 10 = .ok (.aload_n 0, 1) := by decide +kernel
theorem dX4_daysTill_11 : decode cX4_daysTill 11 = .ok (.getfield 12, 3) := by decide +kernel
theorem dX4_daysTill_14 : decode cX4_daysTill 14 = .ok (.invokevirtual 69, 3) := by decide +kernel
theorem dX4_daysTill_17 : decode cX4_daysTill 17 = .ok (.ifCond .eq 5, 3) := by decide +kernel
theorem dX4_daysTill_20 : decode cX4_daysTill 20 = .ok (.iconst 0, 1) := by decide +kernel
theorem dX4_daysTill_21 : decode cX4_daysTill 21 = .ok (.ireturn, 1) := by decide +kernel
theorem dX4_daysTill_22 : decode cX4_daysTill 22 = .ok (.iconst 1, 1) := by decide +kernel
theorem dX4_daysTill_23 : decode cX4_daysTill 23 = .ok (.istore 5, 2) := by decide +kernel
theorem dX4_daysTill_25 : decode cX4_daysTill 25 = .ok (.iload 5, 2) := by decide +kernel
theorem dX4_daysTill_27 : decode cX4_daysTill 27 = .ok (.bipush 40, 2) := by decide +kernel
theorem dX4_daysTill_29 : decode cX4_daysTill 29 = .ok (.if_icmp .gt 65, 3) := by decide +kernel
theorem dX4_daysTill_32 : decode cX4_daysTill 32 = .ok (.iconst 0, 1) := by decide +kernel
theorem dX4_daysTill_33 : decode cX4_daysTill 33 = .ok (.istore 6, 2) := by decide +kernel
theorem dX4_daysTill_35 : decode cX4_daysTill 35 = .ok (.iload 6, 2) := by decide +kernel
theorem dX4_daysTill_37 : decode cX4_daysTill 37 = .ok (.iload 4, 2) := by decide +kernel
theorem dX4_daysTill_39 : decode cX4_daysTill 39 = .ok (.if_icmp .ge 28, 3) := by decide +kernel
theorem dX4_daysTill_42 : decode cX4_daysTill 42 = .ok (.aload_n 0, 1) := by decide +kernel
theorem dX4_daysTill_43 : decode cX4_daysTill 43 = .ok (.getfield 27, 3) := by decide +kernel
theorem dX4_daysTill_46 : decode cX4_daysTill 46 = .ok (.aload_n 0, 1) := by decide +kernel
theorem dX4_daysTill_47 : decode cX4_daysTill 47 = .ok (.getfield 12, 3) := by decide +kernel
theorem dX4_daysTill_50 : decode cX4_daysTill 50 = .ok (.aload_n 0, 1) := by decide +kernel
theorem dX4_daysTill_51 : decode cX4_daysTill 51 = .ok (.getfield 12, 3) := by decide +kernel
theorem dX4_daysTill_54 : decode cX4_daysTill 54 = .ok (.invokevirtual 73, 3) := by decide +kernel
theorem dX4_daysTill_57 : decode cX4_daysTill 57 = .ok (.iload_n 3, 1) := by decide +kernel
theorem dX4_daysTill_58 : decode cX4_daysTill 58 = .ok (.invokevirtual 42, 3) := by decide +kernel
theorem dX4_daysTill_61 : decode cX4_daysTill 61 = .ok (.iinc 6 1, 3) := by decide +kernel
theorem dX4_daysTill_64 : decode cX4_daysTill 64 = .ok (.goto (-29), 3) := by decide +kernel
theorem dX4_daysTill_67 : decode cX4_daysTill 67 = .ok (.aload_n 0, 1) := by decide +kernel
theorem dX4_daysTill_68 : decode cX4_daysTill 68 = .ok (.getfield 27, 3) := by decide +kernel
theorem dX4_daysTill_71 : decode cX4_daysTill 71 = .ok (.aload_n 0, 1) := by decide +kernel
theorem dX4_daysTill_72 : decode cX4_daysTill 72 = .ok (.getfield 12, 3) := by decide +kernel
theorem dX4_daysTill_75 : decode cX4_daysTill 75 = .ok (.invokevirtual 69, 3) := by decide +kernel
theorem dX4_daysTill_78 : decode cX4_daysTill 78 = .ok (.ifCond .eq 6, 3) := by decide +kernel
theorem dX4_daysTill_81 : decode cX4_daysTill 81 = .ok (.iload 5, 2) := by decide +kernel
theorem dX4_daysTill_83 : decode cX4_daysTill 83 = .ok (.ireturn, 1) := by decide +kernel
theorem dX4_daysTill_84 : decode cX4_daysTill 84 = .ok (.aload_n 0, 1) := by decide +kernel
theorem dX4_daysTill_85 : decode cX4_daysTill 85 = .ok (.invokevirtual 76, 3) := by decide +kernel
theorem dX4_daysTill_88 : decode cX4_daysTill 88 = .ok (.iinc 5 1, 3) := by decide +kernel
theorem dX4_daysTill_91 : decode cX4_daysTill 91 = .ok (.goto (-66), 3) := by decide +kernel
theorem dX4_daysTill_94 : decode cX4_daysTill 94 = .ok (.iconst (-1), 1) := by decide +kernel
theorem dX4_daysTill_95 : decode cX4_daysTill 95 = .ok (.ireturn, 1) := by decide +kernel
theorem dX4_passNight_0 : decode cX4_passNight 0 = .ok (.aload_n 0, 1) := by decide +kernel
theorem dX4_passNight_1 : decode cX4_passNight 1 = .ok (.getfield 27, 3) := by decide +kernel
theorem dX4_passNight_4 : decode cX4_passNight 4 = .ok (.aload_n 0, 1) := by decide +kernel
theorem dX4_passNight_5 : decode cX4_passNight 5 = .ok (.getfield 12, 3) := by decide +kernel
theorem dX4_passNight_8 : decode cX4_passNight 8 = .ok (.invokevirtual 79, 3) := by decide +kernel
theorem dX4_passNight_11 : decode cX4_passNight 11 = .ok (.aload_n 0, 1) := by decide +kernel
theorem dX4_passNight_12 : decode cX4_passNight 12 = .ok (.getfield 27, 3) := by decide +kernel
theorem dX4_passNight_15 : decode cX4_passNight 15 = .ok (.dup, 1) := by decide +kernel
theorem dX4_passNight_16 : decode cX4_passNight 16 = .ok (.getfield 82, 3) := by decide +kernel
theorem dX4_passNight_19 : decode cX4_passNight 19 = .ok (.iconst 1, 1) := by decide +kernel
theorem dX4_passNight_20 : decode cX4_passNight 20 = .ok (.iadd, 1) := by decide +kernel
theorem dX4_passNight_21 : decode cX4_passNight 21 = .ok (.putfield 82, 3) := by decide +kernel
theorem dX4_passNight_24 : decode cX4_passNight 24 = .ok (.return_, 1) := by decide +kernel
theorem dX4_bumpsTill_0 : decode cX4_bumpsTill 0 = .ok (.aload_n 0, 1) := by decide +kernel
theorem dX4_bumpsTill_1 : decode cX4_bumpsTill 1 = .ok (.aload_n 1, 1) := by decide +kernel
theorem dX4_bumpsTill_2 : decode cX4_bumpsTill 2 = .ok (.aload_n 2, 1) := by decide +kernel
theorem dX4_bumpsTill_3 : decode cX4_bumpsTill 3 = .ok (.invokevirtual 38, 3) := by decide +kernel
theorem dX4_bumpsTill_6 : decode cX4_bumpsTill 6 = .ok (.iconst 0, 1) := by decide +kernel
theorem dX4_bumpsTill_7 : decode cX4_bumpsTill 7 = .ok (.istore 4, 2) := by decide +kernel
theorem dX4_bumpsTill_9 : decode cX4_bumpsTill 9 = .ok (.iload 4, 2) := by decide +kernel
theorem dX4_bumpsTill_11 : decode cX4_bumpsTill 11 = .ok (.bipush 30, 2) := by decide +kernel
theorem dX4_bumpsTill_13 : decode cX4_bumpsTill 13 = .ok (.if_icmp .gt 40, 3) := by decide +kernel
theorem dX4_bumpsTill_16 : decode cX4_bumpsTill 16 = .ok (.aload_n 0, 1) := by decide +kernel
theorem dX4_bumpsTill_17 : decode cX4_bumpsTill 17 = .ok (.getfield 27, 3) := by decide +kernel
theorem dX4_bumpsTill_20 : decode cX4_bumpsTill 20 = .ok (.aload_n 0, 1) := by decide +kernel
theorem dX4_bumpsTill_21 : decode cX4_bumpsTill 21 = .ok (.getfield 12, 3) := by decide +kernel
theorem dX4_bumpsTill_24 : decode cX4_bumpsTill 24 = .ok (.iload_n 3, 1) := by decide +kernel
theorem dX4_bumpsTill_25 : decode cX4_bumpsTill 25 = .ok (.invokevirtual 85, 3) := by decide +kernel
theorem dX4_bumpsTill_28 : decode cX4_bumpsTill 28 = .ok (.ifCond .lt 6, 3) := by decide +kernel
theorem dX4_bumpsTill_31 : decode cX4_bumpsTill 31 = .ok (.iload 4, 2) := by decide +kernel
theorem dX4_bumpsTill_33 : decode cX4_bumpsTill 33 = .ok (.ireturn, 1) := by decide +kernel
theorem dX4_bumpsTill_34 : decode cX4_bumpsTill 34 = .ok (.aload_n 0, 1) := by decide +kernel
theorem dX4_bumpsTill_35 : decode cX4_bumpsTill 35 = .ok (.getfield 27, 3) := by decide +kernel
theorem dX4_bumpsTill_38 : decode cX4_bumpsTill 38 = .ok (.aload_n 0, 1) := by decide +kernel
theorem dX4_bumpsTill_39 : decode cX4_bumpsTill 39 = .ok (.getfield 12, 3) := by decide +kernel
theorem dX4_bumpsTill_42 : decode cX4_bumpsTill 42 = .ok (.iload_n 3, 1) := by decide +kernel
theorem dX4_bumpsTill_43 : decode cX4_bumpsTill 43 = .ok (.iconst 0, 1) := by decide +kernel
theorem dX4_bumpsTill_44 : decode cX4_bumpsTill 44 = .ok (.invokevirtual 42, 3) := by decide +kernel
theorem dX4_bumpsTill_47 : decode cX4_bumpsTill 47 = .ok (.iinc 4 1, 3) := by decide +kernel
theorem dX4_bumpsTill_50 : decode cX4_bumpsTill 50 = .ok (.goto (-41), 3) := by decide +kernel
theorem dX4_bumpsTill_53 : decode cX4_bumpsTill 53 = .ok (.iconst (-1), 1) := by decide +kernel
theorem dX4_bumpsTill_54 : decode cX4_bumpsTill 54 = .ok (.ireturn, 1) := by decide +kernel
theorem dX4_managedBehind_0 : decode cX4_managedBehind 0 = .ok (.aload_n 0, 1) := by decide +kernel
theorem dX4_managedBehind_1 : decode cX4_managedBehind 1 = .ok (.aload_n 1, 1) := by decide +kernel
theorem dX4_managedBehind_2 : decode cX4_managedBehind 2 = .ok (.aload_n 2, 1) := by decide +kernel
theorem dX4_managedBehind_3 : decode cX4_managedBehind 3 = .ok (.invokevirtual 38, 3) := by decide +kernel
theorem dX4_managedBehind_6 : decode cX4_managedBehind 6 = .ok (.iconst 0, 1) := by decide +kernel
theorem dX4_managedBehind_7 : decode cX4_managedBehind 7 = .ok (.istore 4, 2) := by decide +kernel
theorem dX4_managedBehind_9 : decode cX4_managedBehind 9 = .ok (.iload 4, 2) := by decide +kernel
theorem dX4_managedBehind_11 : decode cX4_managedBehind 11 = .ok (.iload_n 3, 1) := by decide +kernel
theorem dX4_managedBehind_12 : decode cX4_managedBehind 12 = .ok (.if_icmp .ge 13, 3) := by decide +kernel
theorem dX4_managedBehind_15 : decode cX4_managedBehind 15 = .ok (.aload_n 0, 1) := by decide +kernel
theorem dX4_managedBehind_16 : decode cX4_managedBehind 16 = .ok (.invokevirtual 76, 3) := by decide +kernel
theorem dX4_managedBehind_19 : decode cX4_managedBehind 19 = .ok (.iinc 4 1, 3) := by decide +kernel
theorem dX4_managedBehind_22 : decode cX4_managedBehind 22 = .ok (.goto (-13), 3) := by decide +kernel
theorem dX4_managedBehind_25 : decode cX4_managedBehind 25 = .ok (.aload_n 0, 1) := by decide +kernel
theorem dX4_managedBehind_26 : decode cX4_managedBehind 26 = .ok (.getfield 27, 3) := by decide +kernel
theorem dX4_managedBehind_29 : decode cX4_managedBehind 29 = .ok (.aload_n 0, 1) := by decide +kernel
theorem dX4_managedBehind_30 : decode cX4_managedBehind 30 = .ok (.getfield 12, 3) := by decide +kernel
theorem dX4_managedBehind_33 : decode cX4_managedBehind 33 = .ok (.invokevirtual 64, 3) := by decide +kernel
theorem dX4_managedBehind_36 : decode cX4_managedBehind 36 = .ok (.ireturn, 1) := by decide +kernel
theorem dX4_firstOtherwise_0 : decode cX4_firstOtherwise 0 = .ok (.iconst 0, 1) := by decide +kernel
theorem dX4_firstOtherwise_1 : decode cX4_firstOtherwise 1 = .ok (.istore 4, 2) := by decide +kernel
theorem dX4_firstOtherwise_3 : decode cX4_firstOtherwise 3 = .ok (.iload 4, 2) := by decide +kernel
theorem dX4_firstOtherwise_5 : decode cX4_firstOtherwise 5 = .ok (.aload_n 1, 1) := by decide +kernel
theorem dX4_firstOtherwise_6 : decode cX4_firstOtherwise 6 = .ok (.getfield 89, 3) := by decide +kernel
theorem dX4_firstOtherwise_9 : decode cX4_firstOtherwise 9 = .ok (.if_icmp .ge 51, 3) := by decide +kernel
theorem dX4_firstOtherwise_12 : decode cX4_firstOtherwise 12 = .ok (.iload 4, 2) := by decide +kernel
theorem dX4_firstOtherwise_14 : decode cX4_firstOtherwise 14 = .ok (.bipush 40, 2) := by decide +kernel
theorem dX4_firstOtherwise_16 : decode cX4_firstOtherwise 16 = .ok (.if_icmp .ge 44, 3) := by decide +kernel
theorem dX4_firstOtherwise_19 : decode cX4_firstOtherwise 19 = .ok (.aload_n 0, 1) := by decide +kernel
theorem dX4_firstOtherwise_20 : decode cX4_firstOtherwise 20 = .ok (.getfield 27, 3) := by decide +kernel
theorem dX4_firstOtherwise_23 : decode cX4_firstOtherwise 23 = .ok (.aload_n 0, 1) := by decide +kernel
theorem dX4_firstOtherwise_24 : decode cX4_firstOtherwise 24 = .ok (.getfield 12, 3) := by decide +kernel
theorem dX4_firstOtherwise_27 : decode cX4_firstOtherwise 27 = .ok (.iload_n 2, 1) := by decide +kernel
theorem dX4_firstOtherwise_28 : decode cX4_firstOtherwise 28 = .ok (.iload_n 3, 1) := by decide +kernel
theorem dX4_firstOtherwise_29 : decode cX4_firstOtherwise 29 = .ok (.invokevirtual 42, 3) := by decide +kernel
theorem dX4_firstOtherwise_32 : decode cX4_firstOtherwise 32 = .ok (.aload_n 1, 1) := by decide +kernel
theorem dX4_firstOtherwise_33 : decode cX4_firstOtherwise 33 = .ok (.getfield 94, 3) := by decide +kernel
theorem dX4_firstOtherwise_36 : decode cX4_firstOtherwise 36 = .ok (.iload 4, 2) := by decide +kernel
theorem dX4_firstOtherwise_38 : decode cX4_firstOtherwise 38 = .ok (.iaload, 1) := by decide +kernel
theorem dX4_firstOtherwise_39 : decode cX4_firstOtherwise 39 = .ok (.aload_n 0, 1) := by decide +kernel
theorem dX4_firstOtherwise_40 : decode cX4_firstOtherwise 40 = .ok (.getfield 12, 3) := by decide +kernel
theorem dX4_firstOtherwise_43 : decode cX4_firstOtherwise 43 = .ok (.getfield 98, 3) := by decide +kernel
theorem dX4_firstOtherwise_46 : decode cX4_firstOtherwise 46 = .ok (.iload_n 2, 1) := by decide +kernel
theorem dX4_firstOtherwise_47 : decode cX4_firstOtherwise 47 = .ok (.iaload, 1) := by decide +kernel
theorem dX4_firstOtherwise_48 : decode cX4_firstOtherwise 48 = .ok (.if_icmp .eq 6, 3) := by decide +kernel
theorem dX4_firstOtherwise_51 : decode cX4_firstOtherwise 51 = .ok (.iload 4, 2) := by decide +kernel
theorem dX4_firstOtherwise_53 : decode cX4_firstOtherwise 53 = .ok (.ireturn, 1) := by decide +kernel
theorem dX4_firstOtherwise_54 : decode cX4_firstOtherwise 54 = .ok (.iinc 4 1, 3) := by decide +kernel
theorem dX4_firstOtherwise_57 : decode cX4_firstOtherwise 57 = .ok (.goto (-54), 3) := by decide +kernel
theorem dX4_firstOtherwise_60 : decode cX4_firstOtherwise 60 = .ok (.iconst (-1), 1) := by decide +kernel
theorem dX4_firstOtherwise_61 : decode cX4_firstOtherwise 61 = .ok (.ireturn, 1) := by decide +kernel
theorem dX5_init_0 : decode cX5_init 0 = .ok (.aload_n 0, 1) := by decide +kernel
theorem dX5_init_1 : decode cX5_init 1 = .ok (.invokespecial 3, 3) := by decide +kernel
theorem dX5_init_4 : decode cX5_init 4 = .ok (.aload_n 0, 1) := by decide +kernel
theorem dX5_init_5 : decode cX5_init 5 = .ok (.bipush 8, 2) := by decide +kernel
theorem dX5_init_7 : decode cX5_init 7 = .ok (.newarray .int, 2) := by decide +kernel
theorem dX5_init_9 : decode cX5_init 9 = .ok (.putfield 9, 3) := by decide +kernel
theorem dX5_init_12 : decode cX5_init 12 = .ok (.aload_n 0, 1) := by decide +kernel
theorem dX5_init_13 : decode cX5_init 13 = .ok (.bipush 6, 2) := by decide +kernel
theorem dX5_init_15 : decode cX5_init 15 = .ok (.newarray .int, 2) := by decide +kernel
theorem dX5_init_17 : decode cX5_init 17 = .ok (.putfield 17, 3) := by decide +kernel
theorem dX5_init_20 : decode cX5_init 20 = .ok (.aload_n 0, 1) := by decide +kernel
theorem dX5_init_21 : decode cX5_init 21 = .ok (.aload_n 1, 1) := by decide +kernel
theorem dX5_init_22 : decode cX5_init 22 = .ok (.putfield 20, 3) := by decide +kernel
theorem dX5_init_25 : decode cX5_init 25 = .ok (.aload_n 0, 1) := by decide +kernel
theorem dX5_init_26 : decode cX5_init 26 = .ok (.getfield 9, 3) := by decide +kernel
theorem dX5_init_29 : decode cX5_init 29 = .ok (.bipush 30, 2) := by decide +kernel
theorem dX5_init_31 : decode cX5_init 31 = .ok (.invokestatic 24, 3) := by decide +kernel
theorem dX5_init_34 : decode cX5_init 34 = .ok (.return_, 1) := by decide +kernel
theorem dX5_become_0 : decode cX5_become 0 = .ok (.aload_n 0, 1) := by decide +kernel
theorem dX5_become_1 : decode cX5_become 1 = .ok (.aload_n 1, 1) := by decide +kernel
theorem dX5_become_2 : decode cX5_become 2 = .ok (.getfield 30, 3) := by decide +kernel
theorem dX5_become_5 : decode cX5_become 5 = .ok (.putfield 30, 3) := by decide +kernel
theorem dX5_become_8 : decode cX5_become 8 = .ok (.aload_n 0, 1) := by decide +kernel
theorem dX5_become_9 : decode cX5_become 9 = .ok (.aload_n 1, 1) := by decide +kernel
theorem dX5_become_10 : decode cX5_become 10 = .ok (.getfield 20, 3) := by decide +kernel
theorem dX5_become_13 : decode cX5_become 13 = .ok (.putfield 20, 3) := by decide +kernel
theorem dX5_become_16 : decode cX5_become 16 = .ok (.aload_n 1, 1) := by decide +kernel
theorem dX5_become_17 : decode cX5_become 17 = .ok (.getfield 9, 3) := by decide +kernel
theorem dX5_become_20 : decode cX5_become 20 = .ok (.iconst 0, 1) := by decide +kernel
theorem dX5_become_21 : decode cX5_become 21 = .ok (.aload_n 0, 1) := by decide +kernel
theorem dX5_become_22 : decode cX5_become 22 = .ok (.getfield 9, 3) := by decide +kernel
theorem dX5_become_25 : decode cX5_become 25 = .ok (.iconst 0, 1) := by decide +kernel
theorem dX5_become_26 : decode cX5_become 26 = .ok (.bipush 8, 2) := by decide +kernel
theorem dX5_become_28 : decode cX5_become 28 = .ok (.invokestatic 34, 3) := by decide +kernel
theorem dX5_become_31 : decode cX5_become 31 = .ok (.return_, 1) := by decide +kernel
theorem dX5_name_0 : decode cX5_name 0 = .ok (.aload_n 0, 1) := by decide +kernel
theorem dX5_name_1 : decode cX5_name 1 = .ok (.getfield 17, 3) := by decide +kernel
theorem dX5_name_4 : decode cX5_name 4 = .ok (.iconst 0, 1) := by decide +kernel
theorem dX5_name_5 : decode cX5_name 5 = .ok (.aload_n 1, 1) := by decide +kernel
theorem dX5_name_6 : decode cX5_name 6 = .ok (.getfield 40, 3) := by decide +kernel
theorem dX5_name_9 : decode cX5_name 9 = .ok (.iload_n 2, 1) := by decide +kernel
theorem dX5_name_10 : decode cX5_name 10 = .ok (.iaload, 1) := by decide +kernel
theorem dX5_name_11 : decode cX5_name 11 = .ok (.iastore, 1) := by decide +kernel
theorem dX5_name_12 : decode cX5_name 12 = .ok (.aload_n 0, 1) := by decide +kernel
theorem dX5_name_13 : decode cX5_name 13 = .ok (.getfield 17, 3) := by decide +kernel
theorem dX5_name_16 : decode cX5_name 16 = .ok (.iconst 1, 1) := by decide +kernel
theorem dX5_name_17 : decode cX5_name 17 = .ok (.aload_n 0, 1) := by decide +kernel
theorem dX5_name_18 : decode cX5_name 18 = .ok (.getfield 9, 3) := by decide +kernel
theorem dX5_name_21 : decode cX5_name 21 = .ok (.iload_n 2, 1) := by decide +kernel
theorem dX5_name_22 : decode cX5_name 22 = .ok (.iaload, 1) := by decide +kernel
theorem dX5_name_23 : decode cX5_name 23 = .ok (.iastore, 1) := by decide +kernel
theorem dX5_name_24 : decode cX5_name 24 = .ok (.aload_n 0, 1) := by decide +kernel
theorem dX5_name_25 : decode cX5_name 25 = .ok (.getfield 17, 3) := by decide +kernel
theorem dX5_name_28 : decode cX5_name 28 = .ok (.iconst 2, 1) := by decide +kernel
theorem dX5_name_29 : decode cX5_name 29 = .ok (.iload_n 3, 1) := by decide +kernel
theorem dX5_name_30 : decode cX5_name 30 = .ok (.iastore, 1) := by decide +kernel
theorem dX5_name_31 : decode cX5_name 31 = .ok (.aload_n 0, 1) := by decide +kernel
theorem dX5_name_32 : decode cX5_name 32 = .ok (.getfield 17, 3) := by decide +kernel
theorem dX5_name_35 : decode cX5_name 35 = .ok (.iconst 3, 1) := by decide +kernel
theorem dX5_name_36 : decode cX5_name 36 = .ok (.aload_n 1, 1) := by decide +kernel
theorem dX5_name_37 : decode cX5_name 37 = .ok (.getfield 45, 3) := by decide +kernel
theorem dX5_name_40 : decode cX5_name 40 = .ok (.iastore, 1) := by decide +kernel
theorem dX5_name_41 : decode cX5_name 41 = .ok (.aload_n 0, 1) := by decide +kernel
theorem dX5_name_42 : decode cX5_name 42 = .ok (.getfield 17, 3) := by decide +kernel
theorem dX5_name_45 : decode cX5_name 45 = .ok (.iconst 4, 1) := by decide +kernel
theorem dX5_name_46 : decode cX5_name 46 = .ok (.aload_n 0, 1) := by decide +kernel
theorem dX5_name_47 : decode cX5_name 47 = .ok (.getfield 30, 3) := by decide +kernel
theorem dX5_name_50 : decode cX5_name 50 = .ok (.iastore, 1) := by decide +kernel
theorem dX5_name_51 : decode cX5_name 51 = .ok (.aload_n 0, 1) := by decide +kernel
theorem dX5_name_52 : decode cX5_name 52 = .ok (.getfield 17, 3) := by decide +kernel
theorem dX5_name_55 : decode cX5_name 55 = .ok (.iconst 5, 1) := by decide +kernel
theorem dX5_name_56 : decode cX5_name 56 = .ok (.aload_n 1, 1) := by decide +kernel
theorem dX5_name_57 : decode cX5_name 57 = .ok (.getfield 48, 3) := by decide +kernel
theorem dX5_name_60 : decode cX5_name 60 = .ok (.iastore, 1) := by decide +kernel
theorem dX5_name_61 : decode cX5_name 61 = .ok (.return_, 1) := by decide +kernel
theorem dX5_learns_0 : decode cX5_learns 0 = .ok (.aload_n 0, 1) := by decide +kernel
theorem dX5_learns_1 : decode cX5_learns 1 = .ok (.aload_n 1, 1) := by decide +kernel
theorem dX5_learns_2 : decode cX5_learns 2 = .ok (.iload_n 2, 1) := by decide +kernel
theorem dX5_learns_3 : decode cX5_learns 3 = .ok (.iload_n 3, 1) := by decide +kernel
theorem dX5_learns_4 : decode cX5_learns 4 = .ok (.invokevirtual 51, 3) := by decide +kernel
theorem dX5_learns_7 : decode cX5_learns 7 = .ok (.aload_n 0, 1) := by decide +kernel
theorem dX5_learns_8 : decode cX5_learns 8 = .ok (.getfield 20, 3) := by decide +kernel
theorem dX5_learns_11 : decode cX5_learns 11 = .ok (.iconst 0, 1) := by decide +kernel
theorem dX5_learns_12 : decode cX5_learns 12 = .ok (.aload_n 0, 1) := by decide +kernel
theorem dX5_learns_13 : decode cX5_learns 13 = .ok (.getfield 17, 3) := by decide +kernel
theorem dX5_learns_16 : decode cX5_learns 16 = .ok (.invokevirtual 55, 3) := by decide +kernel
theorem dX5_learns_19 : decode cX5_learns 19 = .ok (.iconst 0, 1) := by decide +kernel
theorem dX5_learns_20 : decode cX5_learns 20 = .ok (.bipush 99, 2) := by decide +kernel
theorem dX5_learns_22 : decode cX5_learns 22 = .ok (.invokestatic 59, 3) := by decide +kernel
theorem dX5_learns_25 : decode cX5_learns 25 = .ok (.istore 4, 2) := by decide +kernel
theorem dX5_learns_27 : decode cX5_learns 27 = .ok (.aload_n 1, 1) := by decide +kernel
theorem dX5_learns_28 : decode cX5_learns 28 = .ok (.iload 4, 2) := by decide +kernel
theorem dX5_learns_30 : decode cX5_learns 30 = .ok (.iload_n 3, 1) := by decide +kernel
theorem dX5_learns_31 : decode cX5_learns 31 = .ok (.invokevirtual 63, 3) := by decide +kernel
theorem dX5_learns_34 : decode cX5_learns 34 = .ok (.iconst 0, 1) := by decide +kernel
theorem dX5_learns_35 : decode cX5_learns 35 = .ok (.bipush 99, 2) := by decide +kernel
theorem dX5_learns_37 : decode cX5_learns 37 = .ok (.invokestatic 59, 3) := by decide +kernel
theorem dX5_learns_40 : decode cX5_learns 40 = .ok (.ireturn, 1) := by decide +kernel
section SIM
variable {p : Program} {l : Launch} {e : Env} {R : Room} {s : State} {m : MethodId} {args : Array Value} {below : List Frame} {meth : Method} {c : Code} {D : va_G} {cA : Nat → ClassId} {ad : Nat → Nat} {bs n0 z0 d : Nat} {H0 : Heap} {rv : Option Value} {hf : aM} {E : Nat → List Value → aM → Option Value → aM → Prop} {X : aXt × Value}

set_option maxHeartbeats 4000000 in
set_option maxRecDepth 20000 in
theorem sm_X1_wordAt (hC : aC p s m args c cX1_wordAt 1 RX1 D cA ad bs n0 H0 X) (hF : ∀ ml, ml ≤ 41 → aFit R d ml) (hRm : 16 ≤ R.frames ∧ 1000 ≤ R.locals) (hE : aCalls l D cA ad bs X d E) (hr : meth.sig.returnType = (some .int)) (hlk : meth.locks = false) : aSims (fun f i => aSim p l e R s m args below meth c (aEnd below s args D cA ad bs n0 z0 rv hf) 1 D cA ad bs n0 z0 H0 (apc pc_X1_wordAt) rv hf E f i) (cd_X1_wordAt) 0 := by
  unfold cd_X1_wordAt
  refine aSims_c (i := 0) (s_aload_n hC dX1_wordAt_0 rfl rfl) ?_
  refine aSims_c (i := 1) (s_ldcS hC dX1_wordAt_1 rfl rfl (by decide) rfl) ?_
  refine aSims_c (i := 2) (s_callV (n := 1) hC dX1_wordAt_3 rfl rfl (hE 29 _ _ _ _ rfl) (hF _ (by decide)) w_313 w_310 w_312 w_4 w_97 rfl (by decide +kernel)) ?_
  refine aSims_c (i := 3) (s_if_eq hC dX1_wordAt_6 rfl rfl rfl) ?_
  refine aSims_c (i := 4) (s_bipush hC dX1_wordAt_9 rfl rfl rfl) ?_
  refine aSims_c (i := 5) (s_iret hC dX1_wordAt_11 rfl hr hlk nar_qI) ?_
  refine aSims_c (i := 6) (s_aload_n hC dX1_wordAt_12 rfl rfl) ?_
  refine aSims_c (i := 7) (s_ldcS hC dX1_wordAt_13 rfl rfl (by decide) rfl) ?_
  refine aSims_c (i := 8) (s_callV (n := 1) hC dX1_wordAt_15 rfl rfl (hE 29 _ _ _ _ rfl) (hF _ (by decide)) w_313 w_310 w_312 w_4 w_97 rfl (by decide +kernel)) ?_
  refine aSims_c (i := 9) (s_if_eq hC dX1_wordAt_18 rfl rfl rfl) ?_
  refine aSims_c (i := 10) (s_bipush hC dX1_wordAt_21 rfl rfl rfl) ?_
  refine aSims_c (i := 11) (s_iret hC dX1_wordAt_23 rfl hr hlk nar_qI) ?_
  refine aSims_c (i := 12) (s_aload_n hC dX1_wordAt_24 rfl rfl) ?_
  refine aSims_c (i := 13) (s_ldcS hC dX1_wordAt_25 rfl rfl (by decide) rfl) ?_
  refine aSims_c (i := 14) (s_callV (n := 1) hC dX1_wordAt_27 rfl rfl (hE 29 _ _ _ _ rfl) (hF _ (by decide)) w_313 w_310 w_312 w_4 w_97 rfl (by decide +kernel)) ?_
  refine aSims_c (i := 15) (s_if_eq hC dX1_wordAt_30 rfl rfl rfl) ?_
  refine aSims_c (i := 16) (s_bipush hC dX1_wordAt_33 rfl rfl rfl) ?_
  refine aSims_c (i := 17) (s_iret hC dX1_wordAt_35 rfl hr hlk nar_qI) ?_
  refine aSims_c (i := 18) (s_aload_n hC dX1_wordAt_36 rfl rfl) ?_
  refine aSims_c (i := 19) (s_ldcS hC dX1_wordAt_37 rfl rfl (by decide) rfl) ?_
  refine aSims_c (i := 20) (s_callV (n := 1) hC dX1_wordAt_39 rfl rfl (hE 29 _ _ _ _ rfl) (hF _ (by decide)) w_313 w_310 w_312 w_4 w_97 rfl (by decide +kernel)) ?_
  refine aSims_c (i := 21) (s_if_eq hC dX1_wordAt_42 rfl rfl rfl) ?_
  refine aSims_c (i := 22) (s_bipush hC dX1_wordAt_45 rfl rfl rfl) ?_
  refine aSims_c (i := 23) (s_iret hC dX1_wordAt_47 rfl hr hlk nar_qI) ?_
  refine aSims_c (i := 24) (s_aload_n hC dX1_wordAt_48 rfl rfl) ?_
  refine aSims_c (i := 25) (s_ldcS hC dX1_wordAt_49 rfl rfl (by decide) rfl) ?_
  refine aSims_c (i := 26) (s_callV (n := 1) hC dX1_wordAt_51 rfl rfl (hE 29 _ _ _ _ rfl) (hF _ (by decide)) w_313 w_310 w_312 w_4 w_97 rfl (by decide +kernel)) ?_
  refine aSims_c (i := 27) (s_if_eq hC dX1_wordAt_54 rfl rfl rfl) ?_
  refine aSims_c (i := 28) (s_bipush hC dX1_wordAt_57 rfl rfl rfl) ?_
  refine aSims_c (i := 29) (s_iret hC dX1_wordAt_59 rfl hr hlk nar_qI) ?_
  refine aSims_c (i := 30) (s_aload_n hC dX1_wordAt_60 rfl rfl) ?_
  refine aSims_c (i := 31) (s_ldcS hC dX1_wordAt_61 rfl rfl (by decide) rfl) ?_
  refine aSims_c (i := 32) (s_callV (n := 1) hC dX1_wordAt_63 rfl rfl (hE 29 _ _ _ _ rfl) (hF _ (by decide)) w_313 w_310 w_312 w_4 w_97 rfl (by decide +kernel)) ?_
  refine aSims_c (i := 33) (s_if_eq hC dX1_wordAt_66 rfl rfl rfl) ?_
  refine aSims_c (i := 34) (s_bipush hC dX1_wordAt_69 rfl rfl rfl) ?_
  refine aSims_c (i := 35) (s_iret hC dX1_wordAt_71 rfl hr hlk nar_qI) ?_
  refine aSims_c (i := 36) (s_aload_n hC dX1_wordAt_72 rfl rfl) ?_
  refine aSims_c (i := 37) (s_ldcS hC dX1_wordAt_73 rfl rfl (by decide) rfl) ?_
  refine aSims_c (i := 38) (s_callV (n := 1) hC dX1_wordAt_75 rfl rfl (hE 29 _ _ _ _ rfl) (hF _ (by decide)) w_313 w_310 w_312 w_4 w_97 rfl (by decide +kernel)) ?_
  refine aSims_c (i := 39) (s_if_eq hC dX1_wordAt_78 rfl rfl rfl) ?_
  refine aSims_c (i := 40) (s_iconst hC dX1_wordAt_81 rfl rfl rfl) ?_
  refine aSims_c (i := 41) (s_iret hC dX1_wordAt_82 rfl hr hlk nar_qI) ?_
  refine aSims_c (i := 42) (s_aload_n hC dX1_wordAt_83 rfl rfl) ?_
  refine aSims_c (i := 43) (s_ldcS hC dX1_wordAt_84 rfl rfl (by decide) rfl) ?_
  refine aSims_c (i := 44) (s_callV (n := 1) hC dX1_wordAt_86 rfl rfl (hE 29 _ _ _ _ rfl) (hF _ (by decide)) w_313 w_310 w_312 w_4 w_97 rfl (by decide +kernel)) ?_
  refine aSims_c (i := 45) (s_if_eq hC dX1_wordAt_89 rfl rfl rfl) ?_
  refine aSims_c (i := 46) (s_iconst hC dX1_wordAt_92 rfl rfl rfl) ?_
  refine aSims_c (i := 47) (s_iret hC dX1_wordAt_93 rfl hr hlk nar_qI) ?_
  refine aSims_c (i := 48) (s_aload_n hC dX1_wordAt_94 rfl rfl) ?_
  refine aSims_c (i := 49) (s_ldcS hC dX1_wordAt_95 rfl rfl (by decide) rfl) ?_
  refine aSims_c (i := 50) (s_callV (n := 1) hC dX1_wordAt_97 rfl rfl (hE 29 _ _ _ _ rfl) (hF _ (by decide)) w_313 w_310 w_312 w_4 w_97 rfl (by decide +kernel)) ?_
  refine aSims_c (i := 51) (s_if_eq hC dX1_wordAt_100 rfl rfl rfl) ?_
  refine aSims_c (i := 52) (s_iconst hC dX1_wordAt_103 rfl rfl rfl) ?_
  refine aSims_c (i := 53) (s_iret hC dX1_wordAt_104 rfl hr hlk nar_qI) ?_
  refine aSims_c (i := 54) (s_aload_n hC dX1_wordAt_105 rfl rfl) ?_
  refine aSims_c (i := 55) (s_ldcS hC dX1_wordAt_106 rfl rfl (by decide) rfl) ?_
  refine aSims_c (i := 56) (s_callV (n := 1) hC dX1_wordAt_108 rfl rfl (hE 29 _ _ _ _ rfl) (hF _ (by decide)) w_313 w_310 w_312 w_4 w_97 rfl (by decide +kernel)) ?_
  refine aSims_c (i := 57) (s_if_eq hC dX1_wordAt_111 rfl rfl rfl) ?_
  refine aSims_c (i := 58) (s_bipush hC dX1_wordAt_114 rfl rfl rfl) ?_
  refine aSims_c (i := 59) (s_iret hC dX1_wordAt_116 rfl hr hlk nar_qI) ?_
  refine aSims_c (i := 60) (s_aload_n hC dX1_wordAt_117 rfl rfl) ?_
  refine aSims_c (i := 61) (s_ldcS hC dX1_wordAt_118 rfl rfl (by decide) rfl) ?_
  refine aSims_c (i := 62) (s_callV (n := 1) hC dX1_wordAt_120 rfl rfl (hE 29 _ _ _ _ rfl) (hF _ (by decide)) w_313 w_310 w_312 w_4 w_97 rfl (by decide +kernel)) ?_
  refine aSims_c (i := 63) (s_if_eq hC dX1_wordAt_123 rfl rfl rfl) ?_
  refine aSims_c (i := 64) (s_bipush hC dX1_wordAt_126 rfl rfl rfl) ?_
  refine aSims_c (i := 65) (s_iret hC dX1_wordAt_128 rfl hr hlk nar_qI) ?_
  refine aSims_c (i := 66) (s_aload_n hC dX1_wordAt_129 rfl rfl) ?_
  refine aSims_c (i := 67) (s_ldcS hC dX1_wordAt_130 rfl rfl (by decide) rfl) ?_
  refine aSims_c (i := 68) (s_callV (n := 1) hC dX1_wordAt_132 rfl rfl (hE 29 _ _ _ _ rfl) (hF _ (by decide)) w_313 w_310 w_312 w_4 w_97 rfl (by decide +kernel)) ?_
  refine aSims_c (i := 69) (s_if_eq hC dX1_wordAt_135 rfl rfl rfl) ?_
  refine aSims_c (i := 70) (s_bipush hC dX1_wordAt_138 rfl rfl rfl) ?_
  refine aSims_c (i := 71) (s_goto hC dX1_wordAt_140 rfl rfl) ?_
  refine aSims_c (i := 72) (s_iconst hC dX1_wordAt_143 rfl rfl rfl) ?_
  refine aSims_c (i := 73) (s_iret hC dX1_wordAt_144 rfl hr hlk nar_qI) ?_
  exact aSims_n
set_option maxHeartbeats 4000000 in
set_option maxRecDepth 20000 in
theorem sm_X1_reads (hC : aC p s m args c cX1_reads 3 RX1 D cA ad bs n0 H0 X) (hF : ∀ ml, ml ≤ 41 → aFit R d ml) (hRm : 16 ≤ R.frames ∧ 1000 ≤ R.locals) (hE : aCalls l D cA ad bs X d E) (hr : meth.sig.returnType = (some .boolean)) (hlk : meth.locks = false) : aSims (fun f i => aSim p l e R s m args below meth c (aEnd below s args D cA ad bs n0 z0 rv hf) 3 D cA ad bs n0 z0 H0 (apc pc_X1_reads) rv hf E f i) (cd_X1_reads) 0 := by
  unfold cd_X1_reads
  refine aSims_c (i := 0) (s_aload_n hC dX1_reads_0 rfl rfl) ?_
  refine aSims_c (i := 1) (s_get hC dX1_reads_1 rfl rfl w_157 rfl rfl inB1 (by decide)) ?_
  refine aSims_c (i := 2) (s_aload_n hC dX1_reads_4 rfl rfl) ?_
  refine aSims_c (i := 3) (s_get hC dX1_reads_5 rfl rfl w_156 rfl rfl inB1 (by decide)) ?_
  refine aSims_c (i := 4) (s_isub hC dX1_reads_8 rfl rfl) ?_
  refine aSims_c (i := 5) (s_aload_n hC dX1_reads_9 rfl rfl) ?_
  refine aSims_c (i := 6) (s_callT (n := 0) hC hC.2.2.2.2.2.2.2.2.2.1 dX1_reads_10 rfl rfl (hE 216 _ _ _ _ rfl) (hF _ (by decide)) w_233 w_314 w_231 w_232 w_101 (by decide +kernel)) ?_
  refine aSims_c (i := 7) (s_icmp_eq hC dX1_reads_13 rfl rfl rfl) ?_
  refine aSims_c (i := 8) (s_iconst hC dX1_reads_16 rfl rfl rfl) ?_
  refine aSims_c (i := 9) (s_iret hC dX1_reads_17 rfl hr hlk nar_qZ) ?_
  refine aSims_c (i := 10) (s_iconst hC dX1_reads_18 rfl rfl rfl) ?_
  refine aSims_c (i := 11) (s_istore_n hC dX1_reads_19 rfl rfl) ?_
  refine aSims_c (i := 12) (s_iload_n hC dX1_reads_20 rfl rfl) ?_
  refine aSims_c (i := 13) (s_aload_n hC dX1_reads_21 rfl rfl) ?_
  refine aSims_c (i := 14) (s_callT (n := 0) hC hC.2.2.2.2.2.2.2.2.2.1 dX1_reads_22 rfl rfl (hE 216 _ _ _ _ rfl) (hF _ (by decide)) w_233 w_314 w_231 w_232 w_101 (by decide +kernel)) ?_
  refine aSims_c (i := 15) (s_icmp_ge hC dX1_reads_25 rfl rfl rfl) ?_
  refine aSims_c (i := 16) (s_aload_n hC dX1_reads_28 rfl rfl) ?_
  refine aSims_c (i := 17) (s_aload_n hC dX1_reads_29 rfl rfl) ?_
  refine aSims_c (i := 18) (s_get hC dX1_reads_30 rfl rfl w_156 rfl rfl inB1 (by decide)) ?_
  refine aSims_c (i := 19) (s_iload_n hC dX1_reads_33 rfl rfl) ?_
  refine aSims_c (i := 20) (s_iadd hC dX1_reads_34 rfl rfl) ?_
  refine aSims_c (i := 21) (s_callV (n := 1) hC dX1_reads_35 rfl rfl (hE 25 _ _ _ _ rfl) (hF _ (by decide)) w_300 w_297 w_299 w_1 w_97 rfl (by decide +kernel)) ?_
  refine aSims_c (i := 22) (s_aload_n hC dX1_reads_38 rfl rfl) ?_
  refine aSims_c (i := 23) (s_iload_n hC dX1_reads_39 rfl rfl) ?_
  refine aSims_c (i := 24) (s_callT (n := 1) hC hC.2.2.2.2.2.2.2.2.2.1 dX1_reads_40 rfl rfl (hE 218 _ _ _ _ rfl) (hF _ (by decide)) w_243 w_315 w_241 w_242 w_101 (by decide +kernel)) ?_
  refine aSims_c (i := 25) (s_icmp_eq hC dX1_reads_43 rfl rfl rfl) ?_
  refine aSims_c (i := 26) (s_iconst hC dX1_reads_46 rfl rfl rfl) ?_
  refine aSims_c (i := 27) (s_iret hC dX1_reads_47 rfl hr hlk nar_qZ) ?_
  refine aSims_c (i := 28) (s_iinc hC dX1_reads_48 rfl rfl) ?_
  refine aSims_c (i := 29) (s_goto hC dX1_reads_51 rfl rfl) ?_
  refine aSims_c (i := 30) (s_iconst hC dX1_reads_54 rfl rfl rfl) ?_
  refine aSims_c (i := 31) (s_iret hC dX1_reads_55 rfl hr hlk nar_qZ) ?_
  exact aSims_n
set_option maxHeartbeats 4000000 in
set_option maxRecDepth 20000 in
theorem sm_X2_init (hC : aC p s m args c cX2_init 1 RX2 D cA ad bs n0 H0 X) (hF : ∀ ml, ml ≤ 41 → aFit R d ml) (hRm : 16 ≤ R.frames ∧ 1000 ≤ R.locals) (hE : aCalls l D cA ad bs X d E) (hr : meth.sig.returnType = none) (hlk : meth.locks = false) (hin : meth.name = "<init>") : aSims (fun f i => aSim p l e R s m args below meth c (aEnd below s args D cA ad bs n0 z0 rv hf) 1 D cA ad bs n0 z0 H0 (apc pc_X2_init) rv hf E f i) (cd_X2_init) 0 := by
  unfold cd_X2_init
  refine aSims_c (i := 0) (s_aload_n hC dX2_init_0 rfl rfl) ?_
  refine aSims_c (i := 1) (s_objinit hC hRm dX2_init_1 rfl rfl w_214 ⟨w_117, w_118⟩) ?_
  refine aSims_c (i := 2) (s_aload_n hC dX2_init_4 rfl rfl) ?_
  refine aSims_c (i := 3) (s_iconst hC dX2_init_5 rfl rfl rfl) ?_
  refine aSims_c (i := 4) (s_put hC dX2_init_6 rfl rfl w_215 rfl rfl inB2 tyX2_ok nmX2 (by decide) rfl) ?_
  refine aSims_c (i := 5) (s_aload_n hC dX2_init_9 rfl rfl) ?_
  refine aSims_c (i := 6) (s_bipush hC dX2_init_10 rfl rfl rfl) ?_
  refine aSims_c (i := 7) (s_newarray (t0 := 0) hC dX2_init_12 rfl rfl rfl (by decide) w_150) ?_
  refine aSims_c (i := 8) (s_putF hC dX2_init_14 rfl rfl w_219 rfl rfl inB2 tyX2_ok nmX2 (by decide) rfl rfl hin) ?_
  refine aSims_c (i := 9) (s_vret hC dX2_init_17 rfl hr hlk) ?_
  exact aSims_n
set_option maxHeartbeats 4000000 in
set_option maxRecDepth 20000 in
theorem sm_X2_become (hC : aC p s m args c cX2_become 3 RX2 D cA ad bs n0 H0 X) (hF : ∀ ml, ml ≤ 41 → aFit R d ml) (hRm : 16 ≤ R.frames ∧ 1000 ≤ R.locals) (hE : aCalls l D cA ad bs X d E) (hr : meth.sig.returnType = none) (hlk : meth.locks = false) : aSims (fun f i => aSim p l e R s m args below meth c (aEnd below s args D cA ad bs n0 z0 rv hf) 3 D cA ad bs n0 z0 H0 (apc pc_X2_become) rv hf E f i) (cd_X2_become) 0 := by
  unfold cd_X2_become
  refine aSims_c (i := 0) (s_aload_n hC dX2_become_0 rfl rfl) ?_
  refine aSims_c (i := 1) (s_iload_n hC dX2_become_1 rfl rfl) ?_
  refine aSims_c (i := 2) (s_put hC dX2_become_2 rfl rfl w_215 rfl rfl inB2 tyX2_ok nmX2 (by decide) rfl) ?_
  refine aSims_c (i := 3) (s_aload_n hC dX2_become_5 rfl rfl) ?_
  refine aSims_c (i := 4) (s_iload_n hC dX2_become_6 rfl rfl) ?_
  refine aSims_c (i := 5) (s_iconst hC dX2_become_7 rfl rfl rfl) ?_
  refine aSims_c (i := 6) (s_bipush hC dX2_become_8 rfl rfl rfl) ?_
  refine aSims_c (i := 7) (s_callSN hC dX2_become_10 rfl rfl (hE 109 _ _ _ _ rfl) (hF _ (by decide)) w_551 hC.2.2.2.2.2.2.2.2.1.1.2.2.2.1 w_550 w_96 (by decide +kernel)) ?_
  refine aSims_c (i := 8) (s_put hC dX2_become_13 rfl rfl w_217 rfl rfl inB2 tyX2_ok nmX2 (by decide) rfl) ?_
  refine aSims_c (i := 9) (s_aload_n hC dX2_become_16 rfl rfl) ?_
  refine aSims_c (i := 10) (s_get hC dX2_become_17 rfl rfl w_219 rfl rfl inB2 (by decide)) ?_
  refine aSims_c (i := 11) (s_iconst hC dX2_become_20 rfl rfl rfl) ?_
  refine aSims_c (i := 12) (s_callS hC dX2_become_21 rfl rfl (hE 223 _ _ _ _ rfl) (hF _ (by decide)) w_292 w_759 w_291 w_105 (by decide +kernel)) ?_
  refine aSims_c (i := 13) (s_vret hC dX2_become_24 rfl hr hlk) ?_
  exact aSims_n
set_option maxHeartbeats 4000000 in
set_option maxRecDepth 20000 in
theorem sm_X2_has (hC : aC p s m args c cX2_has 2 RX2 D cA ad bs n0 H0 X) (hF : ∀ ml, ml ≤ 41 → aFit R d ml) (hRm : 16 ≤ R.frames ∧ 1000 ≤ R.locals) (hE : aCalls l D cA ad bs X d E) (hr : meth.sig.returnType = (some .boolean)) (hlk : meth.locks = false) : aSims (fun f i => aSim p l e R s m args below meth c (aEnd below s args D cA ad bs n0 z0 rv hf) 2 D cA ad bs n0 z0 H0 (apc pc_X2_has) rv hf E f i) (cd_X2_has) 0 := by
  unfold cd_X2_has
  refine aSims_c (i := 0) (s_iload_n hC dX2_has_0 rfl rfl) ?_
  refine aSims_c (i := 1) (s_if_lt hC dX2_has_1 rfl rfl rfl) ?_
  refine aSims_c (i := 2) (s_iload_n hC dX2_has_4 rfl rfl) ?_
  refine aSims_c (i := 3) (s_aload_n hC dX2_has_5 rfl rfl) ?_
  refine aSims_c (i := 4) (s_get hC dX2_has_6 rfl rfl w_217 rfl rfl inB2 (by decide)) ?_
  refine aSims_c (i := 5) (s_icmp_ge hC dX2_has_9 rfl rfl rfl) ?_
  refine aSims_c (i := 6) (s_iload_n hC dX2_has_12 rfl rfl) ?_
  refine aSims_c (i := 7) (s_bipush hC dX2_has_13 rfl rfl rfl) ?_
  refine aSims_c (i := 8) (s_icmp_ge hC dX2_has_15 rfl rfl rfl) ?_
  refine aSims_c (i := 9) (s_iconst hC dX2_has_18 rfl rfl rfl) ?_
  refine aSims_c (i := 10) (s_goto hC dX2_has_19 rfl rfl) ?_
  refine aSims_c (i := 11) (s_iconst hC dX2_has_22 rfl rfl rfl) ?_
  refine aSims_c (i := 12) (s_iret hC dX2_has_23 rfl hr hlk nar_qZ) ?_
  exact aSims_n
set_option maxHeartbeats 4000000 in
set_option maxRecDepth 20000 in
theorem sm_X2_hasRun (hC : aC p s m args c cX2_hasRun 3 RX2 D cA ad bs n0 H0 X) (hF : ∀ ml, ml ≤ 41 → aFit R d ml) (hRm : 16 ≤ R.frames ∧ 1000 ≤ R.locals) (hE : aCalls l D cA ad bs X d E) (hr : meth.sig.returnType = (some .boolean)) (hlk : meth.locks = false) : aSims (fun f i => aSim p l e R s m args below meth c (aEnd below s args D cA ad bs n0 z0 rv hf) 3 D cA ad bs n0 z0 H0 (apc pc_X2_hasRun) rv hf E f i) (cd_X2_hasRun) 0 := by
  unfold cd_X2_hasRun
  refine aSims_c (i := 0) (s_iload_n hC dX2_hasRun_0 rfl rfl) ?_
  refine aSims_c (i := 1) (s_if_lt hC dX2_hasRun_1 rfl rfl rfl) ?_
  refine aSims_c (i := 2) (s_iload_n hC dX2_hasRun_4 rfl rfl) ?_
  refine aSims_c (i := 3) (s_if_lt hC dX2_hasRun_5 rfl rfl rfl) ?_
  refine aSims_c (i := 4) (s_iload_n hC dX2_hasRun_8 rfl rfl) ?_
  refine aSims_c (i := 5) (s_aload_n hC dX2_hasRun_9 rfl rfl) ?_
  refine aSims_c (i := 6) (s_get hC dX2_hasRun_10 rfl rfl w_217 rfl rfl inB2 (by decide)) ?_
  refine aSims_c (i := 7) (s_icmp_gt hC dX2_hasRun_13 rfl rfl rfl) ?_
  refine aSims_c (i := 8) (s_iload_n hC dX2_hasRun_16 rfl rfl) ?_
  refine aSims_c (i := 9) (s_aload_n hC dX2_hasRun_17 rfl rfl) ?_
  refine aSims_c (i := 10) (s_get hC dX2_hasRun_18 rfl rfl w_217 rfl rfl inB2 (by decide)) ?_
  refine aSims_c (i := 11) (s_iload_n hC dX2_hasRun_21 rfl rfl) ?_
  refine aSims_c (i := 12) (s_isub hC dX2_hasRun_22 rfl rfl) ?_
  refine aSims_c (i := 13) (s_icmp_gt hC dX2_hasRun_23 rfl rfl rfl) ?_
  refine aSims_c (i := 14) (s_iconst hC dX2_hasRun_26 rfl rfl rfl) ?_
  refine aSims_c (i := 15) (s_goto hC dX2_hasRun_27 rfl rfl) ?_
  refine aSims_c (i := 16) (s_iconst hC dX2_hasRun_30 rfl rfl rfl) ?_
  refine aSims_c (i := 17) (s_iret hC dX2_hasRun_31 rfl hr hlk nar_qZ) ?_
  exact aSims_n
set_option maxHeartbeats 4000000 in
set_option maxRecDepth 20000 in
theorem sm_X2_put (hC : aC p s m args c cX2_put 3 RX2 D cA ad bs n0 H0 X) (hF : ∀ ml, ml ≤ 41 → aFit R d ml) (hRm : 16 ≤ R.frames ∧ 1000 ≤ R.locals) (hE : aCalls l D cA ad bs X d E) (hr : meth.sig.returnType = none) (hlk : meth.locks = false) : aSims (fun f i => aSim p l e R s m args below meth c (aEnd below s args D cA ad bs n0 z0 rv hf) 3 D cA ad bs n0 z0 H0 (apc pc_X2_put) rv hf E f i) (cd_X2_put) 0 := by
  unfold cd_X2_put
  refine aSims_c (i := 0) (s_aload_n hC dX2_put_0 rfl rfl) ?_
  refine aSims_c (i := 1) (s_iload_n hC dX2_put_1 rfl rfl) ?_
  refine aSims_c (i := 2) (s_callV (n := 1) hC dX2_put_2 rfl rfl (hE 32 _ _ _ _ rfl) (hF _ (by decide)) w_767 w_764 w_765 w_766 w_100 rfl (by decide +kernel)) ?_
  refine aSims_c (i := 3) (s_if_eq hC dX2_put_5 rfl rfl rfl) ?_
  refine aSims_c (i := 4) (s_aload_n hC dX2_put_8 rfl rfl) ?_
  refine aSims_c (i := 5) (s_get hC dX2_put_9 rfl rfl w_219 rfl rfl inB2 (by decide)) ?_
  refine aSims_c (i := 6) (s_iload_n hC dX2_put_12 rfl rfl) ?_
  refine aSims_c (i := 7) (s_aload_n hC dX2_put_13 rfl rfl) ?_
  refine aSims_c (i := 8) (s_get hC dX2_put_14 rfl rfl w_215 rfl rfl inB2 (by decide)) ?_
  refine aSims_c (i := 9) (s_if_ne hC dX2_put_17 rfl rfl rfl) ?_
  refine aSims_c (i := 10) (s_iload_n hC dX2_put_20 rfl rfl) ?_
  refine aSims_c (i := 11) (s_i2b hC dX2_put_21 rfl rfl) ?_
  refine aSims_c (i := 12) (s_goto hC dX2_put_22 rfl rfl) ?_
  refine aSims_c (i := 13) (s_aload_n hC dX2_put_25 rfl rfl) ?_
  refine aSims_c (i := 14) (s_get hC dX2_put_26 rfl rfl w_215 rfl rfl inB2 (by decide)) ?_
  refine aSims_c (i := 15) (s_iconst hC dX2_put_29 rfl rfl rfl) ?_
  refine aSims_c (i := 16) (s_icmp_ne hC dX2_put_30 rfl rfl rfl) ?_
  refine aSims_c (i := 17) (s_iload_n hC dX2_put_33 rfl rfl) ?_
  refine aSims_c (i := 18) (s_i2s hC dX2_put_34 rfl rfl) ?_
  refine aSims_c (i := 19) (s_goto hC dX2_put_35 rfl rfl) ?_
  refine aSims_c (i := 20) (s_iload_n hC dX2_put_38 rfl rfl) ?_
  refine aSims_c (i := 21) (s_iastore hC dX2_put_39 rfl rfl) ?_
  refine aSims_c (i := 22) (s_vret hC dX2_put_40 rfl hr hlk) ?_
  exact aSims_n
set_option maxHeartbeats 4000000 in
set_option maxRecDepth 20000 in
theorem sm_X3_init (hC : aC p s m args c cX3_init 2 RX3 D cA ad bs n0 H0 X) (hF : ∀ ml, ml ≤ 41 → aFit R d ml) (hRm : 16 ≤ R.frames ∧ 1000 ≤ R.locals) (hE : aCalls l D cA ad bs X d E) (hr : meth.sig.returnType = none) (hlk : meth.locks = false) (hin : meth.name = "<init>") : aSims (fun f i => aSim p l e R s m args below meth c (aEnd below s args D cA ad bs n0 z0 rv hf) 2 D cA ad bs n0 z0 H0 (apc pc_X3_init) rv hf E f i) (cd_X3_init) 0 := by
  unfold cd_X3_init
  refine aSims_c (i := 0) (s_aload_n hC dX3_init_0 rfl rfl) ?_
  refine aSims_c (i := 1) (s_objinit hC hRm dX3_init_1 rfl rfl w_132 ⟨w_117, w_118⟩) ?_
  refine aSims_c (i := 2) (s_aload_n hC dX3_init_4 rfl rfl) ?_
  refine aSims_c (i := 3) (s_sipush hC dX3_init_5 rfl rfl rfl) ?_
  refine aSims_c (i := 4) (s_newarray (t0 := 0) hC dX3_init_8 rfl rfl rfl (by decide) w_150) ?_
  refine aSims_c (i := 5) (s_putF hC dX3_init_10 rfl rfl w_135 rfl rfl inB3 tyX3_ok nmX3 (by decide) rfl rfl hin) ?_
  refine aSims_c (i := 6) (s_aload_n hC dX3_init_13 rfl rfl) ?_
  refine aSims_c (i := 7) (s_iconst hC dX3_init_14 rfl rfl rfl) ?_
  refine aSims_c (i := 8) (s_newarray (t0 := 0) hC dX3_init_15 rfl rfl rfl (by decide) w_150) ?_
  refine aSims_c (i := 9) (s_putF hC dX3_init_17 rfl rfl w_136 rfl rfl inB3 tyX3_ok nmX3 (by decide) rfl rfl hin) ?_
  refine aSims_c (i := 10) (s_aload_n hC dX3_init_20 rfl rfl) ?_
  refine aSims_c (i := 11) (s_bipush hC dX3_init_21 rfl rfl rfl) ?_
  refine aSims_c (i := 12) (s_newarray (t0 := 0) hC dX3_init_23 rfl rfl rfl (by decide) w_150) ?_
  refine aSims_c (i := 13) (s_putF hC dX3_init_25 rfl rfl w_137 rfl rfl inB3 tyX3_ok nmX3 (by decide) rfl rfl hin) ?_
  refine aSims_c (i := 14) (s_aload_n hC dX3_init_28 rfl rfl) ?_
  refine aSims_c (i := 15) (s_iload_n hC dX3_init_29 rfl rfl) ?_
  refine aSims_c (i := 16) (s_putF hC dX3_init_30 rfl rfl w_133 rfl rfl inB3 tyX3_ok nmX3 (by decide) rfl rfl hin) ?_
  refine aSims_c (i := 17) (s_vret hC dX3_init_33 rfl hr hlk) ?_
  exact aSims_n
set_option maxHeartbeats 4000000 in
set_option maxRecDepth 20000 in
theorem sm_X3_empty (hC : aC p s m args c cX3_empty 1 RX3 D cA ad bs n0 H0 X) (hF : ∀ ml, ml ≤ 41 → aFit R d ml) (hRm : 16 ≤ R.frames ∧ 1000 ≤ R.locals) (hE : aCalls l D cA ad bs X d E) (hr : meth.sig.returnType = none) (hlk : meth.locks = false) : aSims (fun f i => aSim p l e R s m args below meth c (aEnd below s args D cA ad bs n0 z0 rv hf) 1 D cA ad bs n0 z0 H0 (apc pc_X3_empty) rv hf E f i) (cd_X3_empty) 0 := by
  unfold cd_X3_empty
  refine aSims_c (i := 0) (s_aload_n hC dX3_empty_0 rfl rfl) ?_
  refine aSims_c (i := 1) (s_iconst hC dX3_empty_1 rfl rfl rfl) ?_
  refine aSims_c (i := 2) (s_put hC dX3_empty_2 rfl rfl w_138 rfl rfl inB3 tyX3_ok nmX3 (by decide) rfl) ?_
  refine aSims_c (i := 3) (s_aload_n hC dX3_empty_5 rfl rfl) ?_
  refine aSims_c (i := 4) (s_get hC dX3_empty_6 rfl rfl w_136 rfl rfl inB3 (by decide)) ?_
  refine aSims_c (i := 5) (s_iconst hC dX3_empty_9 rfl rfl rfl) ?_
  refine aSims_c (i := 6) (s_callS hC dX3_empty_10 rfl rfl (hE 223 _ _ _ _ rfl) (hF _ (by decide)) w_292 w_290 w_291 w_105 (by decide +kernel)) ?_
  refine aSims_c (i := 7) (s_vret hC dX3_empty_13 rfl hr hlk) ?_
  exact aSims_n
set_option maxHeartbeats 4000000 in
set_option maxRecDepth 20000 in
theorem sm_X3_become (hC : aC p s m args c cX3_become 2 RX3 D cA ad bs n0 H0 X) (hF : ∀ ml, ml ≤ 41 → aFit R d ml) (hRm : 16 ≤ R.frames ∧ 1000 ≤ R.locals) (hE : aCalls l D cA ad bs X d E) (hr : meth.sig.returnType = none) (hlk : meth.locks = false) : aSims (fun f i => aSim p l e R s m args below meth c (aEnd below s args D cA ad bs n0 z0 rv hf) 2 D cA ad bs n0 z0 H0 (apc pc_X3_become) rv hf E f i) (cd_X3_become) 0 := by
  unfold cd_X3_become
  refine aSims_c (i := 0) (s_aload_n hC dX3_become_0 rfl rfl) ?_
  refine aSims_c (i := 1) (s_aload_n hC dX3_become_1 rfl rfl) ?_
  refine aSims_c (i := 2) (s_get hC dX3_become_2 rfl rfl w_138 rfl rfl inB3 (by decide)) ?_
  refine aSims_c (i := 3) (s_put hC dX3_become_5 rfl rfl w_138 rfl rfl inB3 tyX3_ok nmX3 (by decide) rfl) ?_
  refine aSims_c (i := 4) (s_aload_n hC dX3_become_8 rfl rfl) ?_
  refine aSims_c (i := 5) (s_get hC dX3_become_9 rfl rfl w_136 rfl rfl inB3 (by decide)) ?_
  refine aSims_c (i := 6) (s_iconst hC dX3_become_12 rfl rfl rfl) ?_
  refine aSims_c (i := 7) (s_aload_n hC dX3_become_13 rfl rfl) ?_
  refine aSims_c (i := 8) (s_get hC dX3_become_14 rfl rfl w_136 rfl rfl inB3 (by decide)) ?_
  refine aSims_c (i := 9) (s_iconst hC dX3_become_17 rfl rfl rfl) ?_
  refine aSims_c (i := 10) (s_iconst hC dX3_become_18 rfl rfl rfl) ?_
  refine aSims_c (i := 11) (s_arraycopy hC hRm dX3_become_19 rfl rfl w_379 ⟨w_381, w_380, w_106⟩) ?_
  refine aSims_c (i := 12) (s_aload_n hC dX3_become_22 rfl rfl) ?_
  refine aSims_c (i := 13) (s_get hC dX3_become_23 rfl rfl w_135 rfl rfl inB3 (by decide)) ?_
  refine aSims_c (i := 14) (s_iconst hC dX3_become_26 rfl rfl rfl) ?_
  refine aSims_c (i := 15) (s_aload_n hC dX3_become_27 rfl rfl) ?_
  refine aSims_c (i := 16) (s_get hC dX3_become_28 rfl rfl w_135 rfl rfl inB3 (by decide)) ?_
  refine aSims_c (i := 17) (s_iconst hC dX3_become_31 rfl rfl rfl) ?_
  refine aSims_c (i := 18) (s_sipush hC dX3_become_32 rfl rfl rfl) ?_
  refine aSims_c (i := 19) (s_arraycopy hC hRm dX3_become_35 rfl rfl w_379 ⟨w_381, w_380, w_106⟩) ?_
  refine aSims_c (i := 20) (s_vret hC dX3_become_38 rfl hr hlk) ?_
  exact aSims_n
set_option maxHeartbeats 4000000 in
set_option maxRecDepth 20000 in
theorem sm_X3_add (hC : aC p s m args c cX3_add 2 RX3 D cA ad bs n0 H0 X) (hF : ∀ ml, ml ≤ 41 → aFit R d ml) (hRm : 16 ≤ R.frames ∧ 1000 ≤ R.locals) (hE : aCalls l D cA ad bs X d E) (hr : meth.sig.returnType = none) (hlk : meth.locks = false) : aSims (fun f i => aSim p l e R s m args below meth c (aEnd below s args D cA ad bs n0 z0 rv hf) 2 D cA ad bs n0 z0 H0 (apc pc_X3_add) rv hf E f i) (cd_X3_add) 0 := by
  unfold cd_X3_add
  refine aSims_c (i := 0) (s_aload_n hC dX3_add_0 rfl rfl) ?_
  refine aSims_c (i := 1) (s_get hC dX3_add_1 rfl rfl w_138 rfl rfl inB3 (by decide)) ?_
  refine aSims_c (i := 2) (s_if_lt hC dX3_add_4 rfl rfl rfl) ?_
  refine aSims_c (i := 3) (s_aload_n hC dX3_add_7 rfl rfl) ?_
  refine aSims_c (i := 4) (s_get hC dX3_add_8 rfl rfl w_138 rfl rfl inB3 (by decide)) ?_
  refine aSims_c (i := 5) (s_sipush hC dX3_add_11 rfl rfl rfl) ?_
  refine aSims_c (i := 6) (s_icmp_ge hC dX3_add_14 rfl rfl rfl) ?_
  refine aSims_c (i := 7) (s_aload_n hC dX3_add_17 rfl rfl) ?_
  refine aSims_c (i := 8) (s_get hC dX3_add_18 rfl rfl w_135 rfl rfl inB3 (by decide)) ?_
  refine aSims_c (i := 9) (s_aload_n hC dX3_add_21 rfl rfl) ?_
  refine aSims_c (i := 10) (s_get hC dX3_add_22 rfl rfl w_138 rfl rfl inB3 (by decide)) ?_
  refine aSims_c (i := 11) (s_iload_n hC dX3_add_25 rfl rfl) ?_
  refine aSims_c (i := 12) (s_iastore hC dX3_add_26 rfl rfl) ?_
  refine aSims_c (i := 13) (s_aload_n hC dX3_add_27 rfl rfl) ?_
  refine aSims_c (i := 14) (s_dup hC dX3_add_28 rfl rfl) ?_
  refine aSims_c (i := 15) (s_get hC dX3_add_29 rfl rfl w_138 rfl rfl inB3 (by decide)) ?_
  refine aSims_c (i := 16) (s_iconst hC dX3_add_32 rfl rfl rfl) ?_
  refine aSims_c (i := 17) (s_iadd hC dX3_add_33 rfl rfl) ?_
  refine aSims_c (i := 18) (s_put hC dX3_add_34 rfl rfl w_138 rfl rfl inB3 tyX3_ok nmX3 (by decide) rfl) ?_
  refine aSims_c (i := 19) (s_vret hC dX3_add_37 rfl hr hlk) ?_
  exact aSims_n
set_option maxHeartbeats 4000000 in
set_option maxRecDepth 20000 in
theorem sm_X3_endPart (hC : aC p s m args c cX3_endPart 2 RX3 D cA ad bs n0 H0 X) (hF : ∀ ml, ml ≤ 41 → aFit R d ml) (hRm : 16 ≤ R.frames ∧ 1000 ≤ R.locals) (hE : aCalls l D cA ad bs X d E) (hr : meth.sig.returnType = none) (hlk : meth.locks = false) : aSims (fun f i => aSim p l e R s m args below meth c (aEnd below s args D cA ad bs n0 z0 rv hf) 2 D cA ad bs n0 z0 H0 (apc pc_X3_endPart) rv hf E f i) (cd_X3_endPart) 0 := by
  unfold cd_X3_endPart
  refine aSims_c (i := 0) (s_iload_n hC dX3_endPart_0 rfl rfl) ?_
  refine aSims_c (i := 1) (s_if_lt hC dX3_endPart_1 rfl rfl rfl) ?_
  refine aSims_c (i := 2) (s_iload_n hC dX3_endPart_4 rfl rfl) ?_
  refine aSims_c (i := 3) (s_iconst hC dX3_endPart_5 rfl rfl rfl) ?_
  refine aSims_c (i := 4) (s_icmp_ge hC dX3_endPart_6 rfl rfl rfl) ?_
  refine aSims_c (i := 5) (s_aload_n hC dX3_endPart_9 rfl rfl) ?_
  refine aSims_c (i := 6) (s_get hC dX3_endPart_10 rfl rfl w_136 rfl rfl inB3 (by decide)) ?_
  refine aSims_c (i := 7) (s_iload_n hC dX3_endPart_13 rfl rfl) ?_
  refine aSims_c (i := 8) (s_aload_n hC dX3_endPart_14 rfl rfl) ?_
  refine aSims_c (i := 9) (s_get hC dX3_endPart_15 rfl rfl w_138 rfl rfl inB3 (by decide)) ?_
  refine aSims_c (i := 10) (s_iastore hC dX3_endPart_18 rfl rfl) ?_
  refine aSims_c (i := 11) (s_vret hC dX3_endPart_19 rfl hr hlk) ?_
  exact aSims_n
set_option maxHeartbeats 4000000 in
set_option maxRecDepth 20000 in
theorem sm_X3_value_0 (hC : aC p s m args c cX3_value 8 RX3 D cA ad bs n0 H0 X) (hF : ∀ ml, ml ≤ 41 → aFit R d ml) (hRm : 16 ≤ R.frames ∧ 1000 ≤ R.locals) (hE : aCalls l D cA ad bs X d E) (hr : meth.sig.returnType = (some .int)) (hlk : meth.locks = false) : aSims (fun f i => aSim p l e R s m args below meth c (aEnd below s args D cA ad bs n0 z0 rv hf) 8 D cA ad bs n0 z0 H0 (apc pc_X3_value) rv hf E f i) (cd_X3_value_0) 0 := by
  unfold cd_X3_value_0
  refine aSims_c (i := 0) (s_iload_n hC dX3_value_0 rfl rfl) ?_
  refine aSims_c (i := 1) (s_if_lt hC dX3_value_1 rfl rfl rfl) ?_
  refine aSims_c (i := 2) (s_iload_n hC dX3_value_4 rfl rfl) ?_
  refine aSims_c (i := 3) (s_iconst hC dX3_value_5 rfl rfl rfl) ?_
  refine aSims_c (i := 4) (s_icmp_lt hC dX3_value_6 rfl rfl rfl) ?_
  refine aSims_c (i := 5) (s_iconst hC dX3_value_9 rfl rfl rfl) ?_
  refine aSims_c (i := 6) (s_iret hC dX3_value_10 rfl hr hlk nar_qI) ?_
  refine aSims_c (i := 7) (s_iload_n hC dX3_value_11 rfl rfl) ?_
  refine aSims_c (i := 8) (s_if_ne hC dX3_value_12 rfl rfl rfl) ?_
  refine aSims_c (i := 9) (s_iconst hC dX3_value_15 rfl rfl rfl) ?_
  refine aSims_c (i := 10) (s_goto hC dX3_value_16 rfl rfl) ?_
  refine aSims_c (i := 11) (s_aload_n hC dX3_value_19 rfl rfl) ?_
  refine aSims_c (i := 12) (s_get hC dX3_value_20 rfl rfl w_136 rfl rfl inB3 (by decide)) ?_
  refine aSims_c (i := 13) (s_iload_n hC dX3_value_23 rfl rfl) ?_
  refine aSims_c (i := 14) (s_iconst hC dX3_value_24 rfl rfl rfl) ?_
  refine aSims_c (i := 15) (s_isub hC dX3_value_25 rfl rfl) ?_
  refine aSims_c (i := 16) (s_iaload hC hX0 dX3_value_26 rfl rfl) ?_
  refine aSims_c (i := 17) (s_istore_n hC dX3_value_27 rfl rfl) ?_
  refine aSims_c (i := 18) (s_iconst hC dX3_value_28 rfl rfl rfl) ?_
  refine aSims_c (i := 19) (s_istore hC dX3_value_29 rfl rfl) ?_
  refine aSims_c (i := 20) (s_iload_n hC dX3_value_31 rfl rfl) ?_
  refine aSims_c (i := 21) (s_istore hC dX3_value_32 rfl rfl) ?_
  refine aSims_c (i := 22) (s_iload hC dX3_value_34 rfl rfl) ?_
  refine aSims_c (i := 23) (s_if_lt hC dX3_value_36 rfl rfl rfl) ?_
  refine aSims_c (i := 24) (s_iload hC dX3_value_39 rfl rfl) ?_
  refine aSims_c (i := 25) (s_aload_n hC dX3_value_41 rfl rfl) ?_
  refine aSims_c (i := 26) (s_get hC dX3_value_42 rfl rfl w_136 rfl rfl inB3 (by decide)) ?_
  refine aSims_c (i := 27) (s_iload_n hC dX3_value_45 rfl rfl) ?_
  refine aSims_c (i := 28) (s_iaload hC hX0 dX3_value_46 rfl rfl) ?_
  refine aSims_c (i := 29) (s_icmp_ge hC dX3_value_47 rfl rfl rfl) ?_
  refine aSims_c (i := 30) (s_iload hC dX3_value_50 rfl rfl) ?_
  refine aSims_c (i := 31) (s_sipush hC dX3_value_52 rfl rfl rfl) ?_
  refine aSims_c (i := 32) (s_icmp_ge hC dX3_value_55 rfl rfl rfl) ?_
  refine aSims_c (i := 33) (s_aload_n hC dX3_value_58 rfl rfl) ?_
  refine aSims_c (i := 34) (s_get hC dX3_value_59 rfl rfl w_135 rfl rfl inB3 (by decide)) ?_
  refine aSims_c (i := 35) (s_iload hC dX3_value_62 rfl rfl) ?_
  refine aSims_c (i := 36) (s_iaload hC hX0 dX3_value_64 rfl rfl) ?_
  refine aSims_c (i := 37) (s_istore hC dX3_value_65 rfl rfl) ?_
  refine aSims_c (i := 38) (s_iload hC dX3_value_67 rfl rfl) ?_
  refine aSims_c (i := 39) (s_bipush hC dX3_value_69 rfl rfl rfl) ?_
  refine aSims_c (i := 40) (s_icmp_lt hC dX3_value_71 rfl rfl rfl) ?_
  refine aSims_c (i := 41) (s_iload hC dX3_value_74 rfl rfl) ?_
  refine aSims_c (i := 42) (s_bipush hC dX3_value_76 rfl rfl rfl) ?_
  refine aSims_c (i := 43) (s_icmp_lt hC dX3_value_78 rfl rfl rfl) ?_
  refine aSims_c (i := 44) (s_iconst hC dX3_value_81 rfl rfl rfl) ?_
  refine aSims_c (i := 45) (s_iret hC dX3_value_82 rfl hr hlk nar_qI) ?_
  refine aSims_c (i := 46) (s_aload_n hC dX3_value_83 rfl rfl) ?_
  refine aSims_c (i := 47) (s_get hC dX3_value_84 rfl rfl w_137 rfl rfl inB3 (by decide)) ?_
  refine aSims_c (i := 48) (s_iload hC dX3_value_87 rfl rfl) ?_
  refine aSims_c (i := 49) (s_iload hC dX3_value_89 rfl rfl) ?_
  refine aSims_c (i := 50) (s_aload_n hC dX3_value_91 rfl rfl) ?_
  refine aSims_c (i := 51) (s_callS hC dX3_value_92 rfl rfl (hE 41 _ _ _ _ rfl) (hF _ (by decide)) w_545 w_543 w_544 w_98 (by decide +kernel)) ?_
  refine aSims_c (i := 52) (s_iastore hC dX3_value_95 rfl rfl) ?_
  refine aSims_c (i := 53) (s_iinc hC dX3_value_96 rfl rfl) ?_
  refine aSims_c (i := 54) (s_goto hC dX3_value_99 rfl rfl) ?_
  refine aSims_c (i := 55) (s_iload hC dX3_value_102 rfl rfl) ?_
  refine aSims_c (i := 56) (s_bipush hC dX3_value_104 rfl rfl rfl) ?_
  refine aSims_c (i := 57) (s_icmp_eq hC dX3_value_106 rfl rfl rfl) ?_
  refine aSims_c (i := 58) (s_iload hC dX3_value_109 rfl rfl) ?_
  refine aSims_c (i := 59) (s_bipush hC dX3_value_111 rfl rfl rfl) ?_
  refine aSims_c (i := 60) (s_icmp_ne hC dX3_value_113 rfl rfl rfl) ?_
  refine aSims_c (i := 61) (s_iload hC dX3_value_116 rfl rfl) ?_
  refine aSims_c (i := 62) (s_iconst hC dX3_value_118 rfl rfl rfl) ?_
  refine aSims_c (i := 63) (s_icmp_ge hC dX3_value_119 rfl rfl rfl) ?_
  refine aSims_c (i := 64) (s_iconst hC dX3_value_122 rfl rfl rfl) ?_
  refine aSims_c (i := 65) (s_iret hC dX3_value_123 rfl hr hlk nar_qI) ?_
  refine aSims_c (i := 66) (s_aload_n hC dX3_value_124 rfl rfl) ?_
  refine aSims_c (i := 67) (s_get hC dX3_value_125 rfl rfl w_137 rfl rfl inB3 (by decide)) ?_
  refine aSims_c (i := 68) (s_iload hC dX3_value_128 rfl rfl) ?_
  refine aSims_c (i := 69) (s_iconst hC dX3_value_130 rfl rfl rfl) ?_
  refine aSims_c (i := 70) (s_isub hC dX3_value_131 rfl rfl) ?_
  refine aSims_c (i := 71) (s_iaload hC hX0 dX3_value_132 rfl rfl) ?_
  refine aSims_c (i := 72) (s_istore hC dX3_value_133 rfl rfl) ?_
  refine aSims_c (i := 73) (s_aload_n hC dX3_value_135 rfl rfl) ?_
  refine aSims_c (i := 74) (s_get hC dX3_value_136 rfl rfl w_137 rfl rfl inB3 (by decide)) ?_
  refine aSims_c (i := 75) (s_iload hC dX3_value_139 rfl rfl) ?_
  refine aSims_c (i := 76) (s_iconst hC dX3_value_141 rfl rfl rfl) ?_
  refine aSims_c (i := 77) (s_isub hC dX3_value_142 rfl rfl) ?_
  refine aSims_c (i := 78) (s_iload hC dX3_value_143 rfl rfl) ?_
  refine aSims_c (i := 79) (s_bipush hC dX3_value_145 rfl rfl rfl) ?_
  refine aSims_c (i := 80) (s_icmp_ne hC dX3_value_147 rfl rfl rfl) ?_
  refine aSims_c (i := 81) (s_iload hC dX3_value_150 rfl rfl) ?_
  refine aSims_c (i := 82) (s_ineg hC dX3_value_152 rfl rfl) ?_
  refine aSims_c (i := 83) (s_goto hC dX3_value_153 rfl rfl) ?_
  refine aSims_c (i := 84) (s_iload hC dX3_value_156 rfl rfl) ?_
  refine aSims_c (i := 85) (s_if_ne hC dX3_value_158 rfl rfl rfl) ?_
  refine aSims_c (i := 86) (s_iconst hC dX3_value_161 rfl rfl rfl) ?_
  refine aSims_c (i := 87) (s_goto hC dX3_value_162 rfl rfl) ?_
  refine aSims_c (i := 88) (s_iconst hC dX3_value_165 rfl rfl rfl) ?_
  refine aSims_c (i := 89) (s_iastore hC dX3_value_166 rfl rfl) ?_
  refine aSims_c (i := 90) (s_goto hC dX3_value_167 rfl rfl) ?_
  refine aSims_c (i := 91) (s_iload hC dX3_value_170 rfl rfl) ?_
  refine aSims_c (i := 92) (s_iconst hC dX3_value_172 rfl rfl rfl) ?_
  refine aSims_c (i := 93) (s_icmp_ge hC dX3_value_173 rfl rfl rfl) ?_
  refine aSims_c (i := 94) (s_iconst hC dX3_value_176 rfl rfl rfl) ?_
  refine aSims_c (i := 95) (s_iret hC dX3_value_177 rfl hr hlk nar_qI) ?_
  refine aSims_c (i := 96) (s_iinc hC dX3_value_178 rfl rfl) ?_
  refine aSims_c (i := 97) (s_aload_n hC dX3_value_181 rfl rfl) ?_
  refine aSims_c (i := 98) (s_get hC dX3_value_182 rfl rfl w_137 rfl rfl inB3 (by decide)) ?_
  refine aSims_c (i := 99) (s_iload hC dX3_value_185 rfl rfl) ?_
  exact aSims_n
set_option maxHeartbeats 4000000 in
set_option maxRecDepth 20000 in
theorem sm_X3_value_1 (hC : aC p s m args c cX3_value 8 RX3 D cA ad bs n0 H0 X) (hF : ∀ ml, ml ≤ 41 → aFit R d ml) (hRm : 16 ≤ R.frames ∧ 1000 ≤ R.locals) (hE : aCalls l D cA ad bs X d E) (hr : meth.sig.returnType = (some .int)) (hlk : meth.locks = false) : aSims (fun f i => aSim p l e R s m args below meth c (aEnd below s args D cA ad bs n0 z0 rv hf) 8 D cA ad bs n0 z0 H0 (apc pc_X3_value) rv hf E f i) (cd_X3_value_1) 100 := by
  unfold cd_X3_value_1
  refine aSims_c (i := 100) (s_iconst hC dX3_value_187 rfl rfl rfl) ?_
  refine aSims_c (i := 101) (s_isub hC dX3_value_188 rfl rfl) ?_
  refine aSims_c (i := 102) (s_iload hC dX3_value_189 rfl rfl) ?_
  refine aSims_c (i := 103) (s_aload_n hC dX3_value_191 rfl rfl) ?_
  refine aSims_c (i := 104) (s_get hC dX3_value_192 rfl rfl w_137 rfl rfl inB3 (by decide)) ?_
  refine aSims_c (i := 105) (s_iload hC dX3_value_195 rfl rfl) ?_
  refine aSims_c (i := 106) (s_iconst hC dX3_value_197 rfl rfl rfl) ?_
  refine aSims_c (i := 107) (s_isub hC dX3_value_198 rfl rfl) ?_
  refine aSims_c (i := 108) (s_iaload hC hX0 dX3_value_199 rfl rfl) ?_
  refine aSims_c (i := 109) (s_aload_n hC dX3_value_200 rfl rfl) ?_
  refine aSims_c (i := 110) (s_get hC dX3_value_201 rfl rfl w_137 rfl rfl inB3 (by decide)) ?_
  refine aSims_c (i := 111) (s_iload hC dX3_value_204 rfl rfl) ?_
  refine aSims_c (i := 112) (s_iaload hC hX0 dX3_value_206 rfl rfl) ?_
  refine aSims_c (i := 113) (s_callS hC dX3_value_207 rfl rfl (hE 42 _ _ _ _ rfl) (hF _ (by decide)) w_548 w_546 w_547 w_98 (by decide +kernel)) ?_
  refine aSims_c (i := 114) (s_iastore hC dX3_value_210 rfl rfl) ?_
  refine aSims_c (i := 115) (s_iinc hC dX3_value_211 rfl rfl) ?_
  refine aSims_c (i := 116) (s_goto hC dX3_value_214 rfl rfl) ?_
  refine aSims_c (i := 117) (s_iload hC dX3_value_217 rfl rfl) ?_
  refine aSims_c (i := 118) (s_if_le hC dX3_value_219 rfl rfl rfl) ?_
  refine aSims_c (i := 119) (s_aload_n hC dX3_value_222 rfl rfl) ?_
  refine aSims_c (i := 120) (s_get hC dX3_value_223 rfl rfl w_137 rfl rfl inB3 (by decide)) ?_
  refine aSims_c (i := 121) (s_iconst hC dX3_value_226 rfl rfl rfl) ?_
  refine aSims_c (i := 122) (s_iaload hC hX0 dX3_value_227 rfl rfl) ?_
  refine aSims_c (i := 123) (s_goto hC dX3_value_228 rfl rfl) ?_
  refine aSims_c (i := 124) (s_iconst hC dX3_value_231 rfl rfl rfl) ?_
  refine aSims_c (i := 125) (s_iret hC dX3_value_232 rfl hr hlk nar_qI) ?_
  exact aSims_n
theorem sm_X3_value (hC : aC p s m args c cX3_value 8 RX3 D cA ad bs n0 H0 X) (hF : ∀ ml, ml ≤ 41 → aFit R d ml) (hRm : 16 ≤ R.frames ∧ 1000 ≤ R.locals) (hE : aCalls l D cA ad bs X d E) (hr : meth.sig.returnType = (some .int)) (hlk : meth.locks = false) : aSims (fun f i => aSim p l e R s m args below meth c (aEnd below s args D cA ad bs n0 z0 rv hf) 8 D cA ad bs n0 z0 H0 (apc pc_X3_value) rv hf E f i) cd_X3_value 0 := aSims_a (sm_X3_value_0 hC hF hRm hE hr hlk) (sm_X3_value_1 hC hF hRm hE hr hlk)
set_option maxHeartbeats 4000000 in
set_option maxRecDepth 20000 in
theorem sm_X3_named (hC : aC p s m args c cX3_named 2 RX3 D cA ad bs n0 H0 X) (hF : ∀ ml, ml ≤ 41 → aFit R d ml) (hRm : 16 ≤ R.frames ∧ 1000 ≤ R.locals) (hE : aCalls l D cA ad bs X d E) (hr : meth.sig.returnType = (some .int)) (hlk : meth.locks = false) : aSims (fun f i => aSim p l e R s m args below meth c (aEnd below s args D cA ad bs n0 z0 rv hf) 2 D cA ad bs n0 z0 H0 (apc pc_X3_named) rv hf E f i) (cd_X3_named) 0 := by
  unfold cd_X3_named
  refine aSims_c (i := 0) (s_iload_n hC dX3_named_0 rfl rfl) ?_
  refine aSims_c (i := 1) (s_if_lt hC dX3_named_1 rfl rfl rfl) ?_
  refine aSims_c (i := 2) (s_iload_n hC dX3_named_4 rfl rfl) ?_
  refine aSims_c (i := 3) (s_iret hC dX3_named_5 rfl hr hlk nar_qI) ?_
  refine aSims_c (i := 4) (s_iconst hC dX3_named_6 rfl rfl rfl) ?_
  refine aSims_c (i := 5) (s_iload_n hC dX3_named_7 rfl rfl) ?_
  refine aSims_c (i := 6) (s_isub hC dX3_named_8 rfl rfl) ?_
  refine aSims_c (i := 7) (s_aload_n hC dX3_named_9 rfl rfl) ?_
  refine aSims_c (i := 8) (s_arraylength hC hX0 dX3_named_10 rfl rfl) ?_
  refine aSims_c (i := 9) (s_icmp_ge hC dX3_named_11 rfl rfl rfl) ?_
  refine aSims_c (i := 10) (s_aload_n hC dX3_named_14 rfl rfl) ?_
  refine aSims_c (i := 11) (s_iconst hC dX3_named_15 rfl rfl rfl) ?_
  refine aSims_c (i := 12) (s_iload_n hC dX3_named_16 rfl rfl) ?_
  refine aSims_c (i := 13) (s_isub hC dX3_named_17 rfl rfl) ?_
  refine aSims_c (i := 14) (s_iaload hC hX0 dX3_named_18 rfl rfl) ?_
  refine aSims_c (i := 15) (s_goto hC dX3_named_19 rfl rfl) ?_
  refine aSims_c (i := 16) (s_iconst hC dX3_named_22 rfl rfl rfl) ?_
  refine aSims_c (i := 17) (s_iret hC dX3_named_23 rfl hr hlk nar_qI) ?_
  exact aSims_n
set_option maxHeartbeats 4000000 in
set_option maxRecDepth 20000 in
theorem sm_X3_joined (hC : aC p s m args c cX3_joined 3 RX3 D cA ad bs n0 H0 X) (hF : ∀ ml, ml ≤ 41 → aFit R d ml) (hRm : 16 ≤ R.frames ∧ 1000 ≤ R.locals) (hE : aCalls l D cA ad bs X d E) (hr : meth.sig.returnType = (some .int)) (hlk : meth.locks = false) : aSims (fun f i => aSim p l e R s m args below meth c (aEnd below s args D cA ad bs n0 z0 rv hf) 3 D cA ad bs n0 z0 H0 (apc pc_X3_joined) rv hf E f i) (cd_X3_joined) 0 := by
  unfold cd_X3_joined
  refine aSims_c (i := 0) (s_iload_n hC dX3_joined_0 rfl rfl) ?_
  refine aSims_c (i := 1) (s_switch hC dX3_joined_1 rfl rfl rfl rfl (aSw_in (by decide +kernel)) (fun j hj => anth_none hj)) ?_
  refine aSims_c (i := 2) (s_iload_n hC dX3_joined_48 rfl rfl) ?_
  refine aSims_c (i := 3) (s_if_ne hC dX3_joined_49 rfl rfl rfl) ?_
  refine aSims_c (i := 4) (s_iload_n hC dX3_joined_52 rfl rfl) ?_
  refine aSims_c (i := 5) (s_if_eq hC dX3_joined_53 rfl rfl rfl) ?_
  refine aSims_c (i := 6) (s_iconst hC dX3_joined_56 rfl rfl rfl) ?_
  refine aSims_c (i := 7) (s_goto hC dX3_joined_57 rfl rfl) ?_
  refine aSims_c (i := 8) (s_iconst hC dX3_joined_60 rfl rfl rfl) ?_
  refine aSims_c (i := 9) (s_iret hC dX3_joined_61 rfl hr hlk nar_qI) ?_
  refine aSims_c (i := 10) (s_iload_n hC dX3_joined_62 rfl rfl) ?_
  refine aSims_c (i := 11) (s_if_eq hC dX3_joined_63 rfl rfl rfl) ?_
  refine aSims_c (i := 12) (s_iload_n hC dX3_joined_66 rfl rfl) ?_
  refine aSims_c (i := 13) (s_if_eq hC dX3_joined_67 rfl rfl rfl) ?_
  refine aSims_c (i := 14) (s_iconst hC dX3_joined_70 rfl rfl rfl) ?_
  refine aSims_c (i := 15) (s_goto hC dX3_joined_71 rfl rfl) ?_
  refine aSims_c (i := 16) (s_iconst hC dX3_joined_74 rfl rfl rfl) ?_
  refine aSims_c (i := 17) (s_iret hC dX3_joined_75 rfl hr hlk nar_qI) ?_
  refine aSims_c (i := 18) (s_iload_n hC dX3_joined_76 rfl rfl) ?_
  refine aSims_c (i := 19) (s_iload_n hC dX3_joined_77 rfl rfl) ?_
  refine aSims_c (i := 20) (s_icmp_ge hC dX3_joined_78 rfl rfl rfl) ?_
  refine aSims_c (i := 21) (s_iconst hC dX3_joined_81 rfl rfl rfl) ?_
  refine aSims_c (i := 22) (s_goto hC dX3_joined_82 rfl rfl) ?_
  refine aSims_c (i := 23) (s_iconst hC dX3_joined_85 rfl rfl rfl) ?_
  refine aSims_c (i := 24) (s_iret hC dX3_joined_86 rfl hr hlk nar_qI) ?_
  refine aSims_c (i := 25) (s_iload_n hC dX3_joined_87 rfl rfl) ?_
  refine aSims_c (i := 26) (s_iload_n hC dX3_joined_88 rfl rfl) ?_
  refine aSims_c (i := 27) (s_icmp_ne hC dX3_joined_89 rfl rfl rfl) ?_
  refine aSims_c (i := 28) (s_iconst hC dX3_joined_92 rfl rfl rfl) ?_
  refine aSims_c (i := 29) (s_goto hC dX3_joined_93 rfl rfl) ?_
  refine aSims_c (i := 30) (s_iconst hC dX3_joined_96 rfl rfl rfl) ?_
  refine aSims_c (i := 31) (s_iret hC dX3_joined_97 rfl hr hlk nar_qI) ?_
  refine aSims_c (i := 32) (s_iload_n hC dX3_joined_98 rfl rfl) ?_
  refine aSims_c (i := 33) (s_iload_n hC dX3_joined_99 rfl rfl) ?_
  refine aSims_c (i := 34) (s_iadd hC dX3_joined_100 rfl rfl) ?_
  refine aSims_c (i := 35) (s_iret hC dX3_joined_101 rfl hr hlk nar_qI) ?_
  refine aSims_c (i := 36) (s_iload_n hC dX3_joined_102 rfl rfl) ?_
  refine aSims_c (i := 37) (s_iload_n hC dX3_joined_103 rfl rfl) ?_
  refine aSims_c (i := 38) (s_isub hC dX3_joined_104 rfl rfl) ?_
  refine aSims_c (i := 39) (s_iret hC dX3_joined_105 rfl hr hlk nar_qI) ?_
  refine aSims_c (i := 40) (s_iload_n hC dX3_joined_106 rfl rfl) ?_
  refine aSims_c (i := 41) (s_iload_n hC dX3_joined_107 rfl rfl) ?_
  refine aSims_c (i := 42) (s_imul hC dX3_joined_108 rfl rfl) ?_
  refine aSims_c (i := 43) (s_iret hC dX3_joined_109 rfl hr hlk nar_qI) ?_
  refine aSims_c (i := 44) (s_iconst hC dX3_joined_110 rfl rfl rfl) ?_
  refine aSims_c (i := 45) (s_iret hC dX3_joined_111 rfl hr hlk nar_qI) ?_
  exact aSims_n
set_option maxHeartbeats 4000000 in
set_option maxRecDepth 20000 in
theorem sm_X4_init (hC : aC p s m args c cX4_init 3 RX4 D cA ad bs n0 H0 X) (hF : ∀ ml, ml ≤ 41 → aFit R d ml) (hRm : 16 ≤ R.frames ∧ 1000 ≤ R.locals) (hE : aCalls l D cA ad bs X d E) (hr : meth.sig.returnType = none) (hlk : meth.locks = false) (hin : meth.name = "<init>") : aSims (fun f i => aSim p l e R s m args below meth c (aEnd below s args D cA ad bs n0 z0 rv hf) 3 D cA ad bs n0 z0 H0 (apc pc_X4_init) rv hf E f i) (cd_X4_init) 0 := by
  unfold cd_X4_init
  refine aSims_c (i := 0) (s_aload_n hC dX4_init_0 rfl rfl) ?_
  refine aSims_c (i := 1) (s_objinit hC hRm dX4_init_1 rfl rfl w_412 ⟨w_117, w_118⟩) ?_
  refine aSims_c (i := 2) (s_aload_n hC dX4_init_4 rfl rfl) ?_
  refine aSims_c (i := 3) (s_new hC dX4_init_5 rfl rfl w_413 w_179 w_99 rfl rfl inB0 tyX0_ok okX0) ?_
  refine aSims_c (i := 4) (s_dup hC dX4_init_8 rfl rfl) ?_
  refine aSims_c (i := 5) (s_callI (n := 0) hC dX4_init_9 rfl rfl (hE 0 _ _ _ _ rfl) (hF _ (by decide)) w_182 w_414 w_181 w_99 rfl (by decide +kernel)) ?_
  refine aSims_c (i := 6) (s_putF hC dX4_init_12 rfl rfl w_419 rfl rfl inB4 tyX4_ok nmX4 (by decide) rfl rfl hin) ?_
  refine aSims_c (i := 7) (s_aload_n hC dX4_init_15 rfl rfl) ?_
  refine aSims_c (i := 8) (s_iconst hC dX4_init_16 rfl rfl rfl) ?_
  refine aSims_c (i := 9) (s_anewarray hC dX4_init_17 rfl rfl w_413 hC.2.2.2.2.2.2.2.2.1.1.2.2.2.2.2.1 rfl) ?_
  refine aSims_c (i := 10) (s_putF hC dX4_init_20 rfl rfl w_427 rfl rfl inB4 tyX4_ok nmX4 (by decide) rfl rfl hin) ?_
  refine aSims_c (i := 11) (s_aload_n hC dX4_init_23 rfl rfl) ?_
  refine aSims_c (i := 12) (s_new hC dX4_init_24 rfl rfl w_415 w_383 w_107 rfl rfl inB5 tyX5_ok okX5) ?_
  refine aSims_c (i := 13) (s_dup hC dX4_init_27 rfl rfl) ?_
  refine aSims_c (i := 14) (s_aload_n hC dX4_init_28 rfl rfl) ?_
  refine aSims_c (i := 15) (s_callI (n := 1) hC dX4_init_29 rfl rfl (hE 53 _ _ _ _ rfl) (hF _ (by decide)) w_386 w_416 w_385 w_107 rfl (by decide +kernel)) ?_
  refine aSims_c (i := 16) (s_putF hC dX4_init_32 rfl rfl w_417 rfl rfl inB4 tyX4_ok nmX4 (by decide) rfl rfl hin) ?_
  refine aSims_c (i := 17) (s_iconst hC dX4_init_35 rfl rfl rfl) ?_
  refine aSims_c (i := 18) (s_istore_n hC dX4_init_36 rfl rfl) ?_
  refine aSims_c (i := 19) (s_iload_n hC dX4_init_37 rfl rfl) ?_
  refine aSims_c (i := 20) (s_iconst hC dX4_init_38 rfl rfl rfl) ?_
  refine aSims_c (i := 21) (s_icmp_gt hC dX4_init_39 rfl rfl rfl) ?_
  refine aSims_c (i := 22) (s_aload_n hC dX4_init_42 rfl rfl) ?_
  refine aSims_c (i := 23) (s_get hC dX4_init_43 rfl rfl w_427 rfl rfl inB4 (by decide)) ?_
  refine aSims_c (i := 24) (s_iload_n hC dX4_init_46 rfl rfl) ?_
  refine aSims_c (i := 25) (s_new hC dX4_init_47 rfl rfl w_413 w_179 w_99 rfl rfl inB0 tyX0_ok okX0) ?_
  refine aSims_c (i := 26) (s_dup hC dX4_init_50 rfl rfl) ?_
  refine aSims_c (i := 27) (s_callI (n := 0) hC dX4_init_51 rfl rfl (hE 0 _ _ _ _ rfl) (hF _ (by decide)) w_182 w_414 w_181 w_99 rfl (by decide +kernel)) ?_
  refine aSims_c (i := 28) (s_aastore hC dX4_init_54 rfl rfl) ?_
  refine aSims_c (i := 29) (s_iinc hC dX4_init_55 rfl rfl) ?_
  refine aSims_c (i := 30) (s_goto hC dX4_init_58 rfl rfl) ?_
  refine aSims_c (i := 31) (s_vret hC dX4_init_61 rfl hr hlk) ?_
  exact aSims_n
set_option maxHeartbeats 4000000 in
set_option maxRecDepth 20000 in
theorem sm_X4_begin (hC : aC p s m args c cX4_begin 3 RX4 D cA ad bs n0 H0 X) (hF : ∀ ml, ml ≤ 41 → aFit R d ml) (hRm : 16 ≤ R.frames ∧ 1000 ≤ R.locals) (hE : aCalls l D cA ad bs X d E) (hr : meth.sig.returnType = none) (hlk : meth.locks = false) : aSims (fun f i => aSim p l e R s m args below meth c (aEnd below s args D cA ad bs n0 z0 rv hf) 3 D cA ad bs n0 z0 H0 (apc pc_X4_begin) rv hf E f i) (cd_X4_begin) 0 := by
  unfold cd_X4_begin
  refine aSims_c (i := 0) (s_aload_n hC dX4_begin_0 rfl rfl) ?_
  refine aSims_c (i := 1) (s_get hC dX4_begin_1 rfl rfl w_417 rfl rfl inB4 (by decide)) ?_
  refine aSims_c (i := 2) (s_aload_n hC dX4_begin_4 rfl rfl) ?_
  refine aSims_c (i := 3) (s_callV (n := 1) hC dX4_begin_5 rfl rfl (hE 54 _ _ _ _ rfl) (hF _ (by decide)) w_648 w_645 w_646 w_647 w_107 rfl (by decide +kernel)) ?_
  refine aSims_c (i := 4) (s_aload_n hC dX4_begin_8 rfl rfl) ?_
  refine aSims_c (i := 5) (s_get hC dX4_begin_9 rfl rfl w_419 rfl rfl inB4 (by decide)) ?_
  refine aSims_c (i := 6) (s_aload_n hC dX4_begin_12 rfl rfl) ?_
  refine aSims_c (i := 7) (s_callV (n := 1) hC dX4_begin_13 rfl rfl (hE 2 _ _ _ _ rfl) (hF _ (by decide)) w_653 w_650 w_651 w_652 w_99 rfl (by decide +kernel)) ?_
  refine aSims_c (i := 8) (s_vret hC dX4_begin_16 rfl hr hlk) ?_
  exact aSims_n
set_option maxHeartbeats 4000000 in
set_option maxRecDepth 20000 in
theorem sm_X4_bestHour (hC : aC p s m args c cX4_bestHour 9 RX4 D cA ad bs n0 H0 X) (hF : ∀ ml, ml ≤ 41 → aFit R d ml) (hRm : 16 ≤ R.frames ∧ 1000 ≤ R.locals) (hE : aCalls l D cA ad bs X d E) (hr : meth.sig.returnType = (some .int)) (hlk : meth.locks = false) : aSims (fun f i => aSim p l e R s m args below meth c (aEnd below s args D cA ad bs n0 z0 rv hf) 9 D cA ad bs n0 z0 H0 (apc pc_X4_bestHour) rv hf E f i) (cd_X4_bestHour) 0 := by
  unfold cd_X4_bestHour
  refine aSims_c (i := 0) (s_iconst hC dX4_bestHour_0 rfl rfl rfl) ?_
  refine aSims_c (i := 1) (s_istore hC dX4_bestHour_1 rfl rfl) ?_
  refine aSims_c (i := 2) (s_iconst hC dX4_bestHour_3 rfl rfl rfl) ?_
  refine aSims_c (i := 3) (s_istore hC dX4_bestHour_4 rfl rfl) ?_
  refine aSims_c (i := 4) (s_iconst hC dX4_bestHour_6 rfl rfl rfl) ?_
  refine aSims_c (i := 5) (s_istore hC dX4_bestHour_7 rfl rfl) ?_
  refine aSims_c (i := 6) (s_iload hC dX4_bestHour_9 rfl rfl) ?_
  refine aSims_c (i := 7) (s_bipush hC dX4_bestHour_11 rfl rfl rfl) ?_
  refine aSims_c (i := 8) (s_icmp_ge hC dX4_bestHour_13 rfl rfl rfl) ?_
  refine aSims_c (i := 9) (s_iconst hC dX4_bestHour_16 rfl rfl rfl) ?_
  refine aSims_c (i := 10) (s_istore hC dX4_bestHour_17 rfl rfl) ?_
  refine aSims_c (i := 11) (s_iload hC dX4_bestHour_19 rfl rfl) ?_
  refine aSims_c (i := 12) (s_iconst hC dX4_bestHour_21 rfl rfl rfl) ?_
  refine aSims_c (i := 13) (s_icmp_ge hC dX4_bestHour_22 rfl rfl rfl) ?_
  refine aSims_c (i := 14) (s_aload_n hC dX4_bestHour_25 rfl rfl) ?_
  refine aSims_c (i := 15) (s_aload_n hC dX4_bestHour_26 rfl rfl) ?_
  refine aSims_c (i := 16) (s_aload_n hC dX4_bestHour_27 rfl rfl) ?_
  refine aSims_c (i := 17) (s_callV (n := 2) hC dX4_bestHour_28 rfl rfl (hE 44 _ _ _ _ rfl) (hF _ (by decide)) w_644 w_641 w_642 w_643 w_108 rfl (by decide +kernel)) ?_
  refine aSims_c (i := 18) (s_aload_n hC dX4_bestHour_31 rfl rfl) ?_
  refine aSims_c (i := 19) (s_get hC dX4_bestHour_32 rfl rfl w_417 rfl rfl inB4 (by decide)) ?_
  refine aSims_c (i := 20) (s_aload_n hC dX4_bestHour_35 rfl rfl) ?_
  refine aSims_c (i := 21) (s_get hC dX4_bestHour_36 rfl rfl w_419 rfl rfl inB4 (by decide)) ?_
  refine aSims_c (i := 22) (s_iload hC dX4_bestHour_39 rfl rfl) ?_
  refine aSims_c (i := 23) (s_iload hC dX4_bestHour_41 rfl rfl) ?_
  refine aSims_c (i := 24) (s_callV (n := 3) hC dX4_bestHour_43 rfl rfl (hE 63 _ _ _ _ rfl) (hF _ (by decide)) w_616 w_655 w_614 w_615 w_107 rfl (by decide +kernel)) ?_
  refine aSims_c (i := 25) (s_aload_n hC dX4_bestHour_46 rfl rfl) ?_
  refine aSims_c (i := 26) (s_get hC dX4_bestHour_47 rfl rfl w_419 rfl rfl inB4 (by decide)) ?_
  refine aSims_c (i := 27) (s_callV (n := 0) hC dX4_bestHour_50 rfl rfl (hE 11 _ _ _ _ rfl) (hF _ (by decide)) w_659 w_656 w_657 w_658 w_99 rfl (by decide +kernel)) ?_
  refine aSims_c (i := 28) (s_istore hC dX4_bestHour_53 rfl rfl) ?_
  refine aSims_c (i := 29) (s_iload hC dX4_bestHour_55 rfl rfl) ?_
  refine aSims_c (i := 30) (s_iload hC dX4_bestHour_57 rfl rfl) ?_
  refine aSims_c (i := 31) (s_icmp_le hC dX4_bestHour_59 rfl rfl rfl) ?_
  refine aSims_c (i := 32) (s_iload hC dX4_bestHour_62 rfl rfl) ?_
  refine aSims_c (i := 33) (s_istore hC dX4_bestHour_64 rfl rfl) ?_
  refine aSims_c (i := 34) (s_bipush hC dX4_bestHour_66 rfl rfl rfl) ?_
  refine aSims_c (i := 35) (s_iload hC dX4_bestHour_68 rfl rfl) ?_
  refine aSims_c (i := 36) (s_imul hC dX4_bestHour_70 rfl rfl) ?_
  refine aSims_c (i := 37) (s_iload hC dX4_bestHour_71 rfl rfl) ?_
  refine aSims_c (i := 38) (s_iadd hC dX4_bestHour_73 rfl rfl) ?_
  refine aSims_c (i := 39) (s_istore hC dX4_bestHour_74 rfl rfl) ?_
  refine aSims_c (i := 40) (s_iinc hC dX4_bestHour_76 rfl rfl) ?_
  refine aSims_c (i := 41) (s_goto hC dX4_bestHour_79 rfl rfl) ?_
  refine aSims_c (i := 42) (s_iinc hC dX4_bestHour_82 rfl rfl) ?_
  refine aSims_c (i := 43) (s_goto hC dX4_bestHour_85 rfl rfl) ?_
  refine aSims_c (i := 44) (s_iload_n hC dX4_bestHour_88 rfl rfl) ?_
  refine aSims_c (i := 45) (s_if_eq hC dX4_bestHour_89 rfl rfl rfl) ?_
  refine aSims_c (i := 46) (s_iload hC dX4_bestHour_92 rfl rfl) ?_
  refine aSims_c (i := 47) (s_goto hC dX4_bestHour_94 rfl rfl) ?_
  refine aSims_c (i := 48) (s_iload hC dX4_bestHour_97 rfl rfl) ?_
  refine aSims_c (i := 49) (s_iret hC dX4_bestHour_99 rfl hr hlk nar_qI) ?_
  exact aSims_n
set_option maxHeartbeats 4000000 in
set_option maxRecDepth 20000 in
theorem sm_X4_beginRows (hC : aC p s m args c cX4_beginRows 3 RX4 D cA ad bs n0 H0 X) (hF : ∀ ml, ml ≤ 41 → aFit R d ml) (hRm : 16 ≤ R.frames ∧ 1000 ≤ R.locals) (hE : aCalls l D cA ad bs X d E) (hr : meth.sig.returnType = none) (hlk : meth.locks = false) : aSims (fun f i => aSim p l e R s m args below meth c (aEnd below s args D cA ad bs n0 z0 rv hf) 3 D cA ad bs n0 z0 H0 (apc pc_X4_beginRows) rv hf E f i) (cd_X4_beginRows) 0 := by
  unfold cd_X4_beginRows
  refine aSims_c (i := 0) (s_aload_n hC dX4_beginRows_0 rfl rfl) ?_
  refine aSims_c (i := 1) (s_aload_n hC dX4_beginRows_1 rfl rfl) ?_
  refine aSims_c (i := 2) (s_aload_n hC dX4_beginRows_2 rfl rfl) ?_
  refine aSims_c (i := 3) (s_callV (n := 2) hC dX4_beginRows_3 rfl rfl (hE 44 _ _ _ _ rfl) (hF _ (by decide)) w_644 w_641 w_642 w_643 w_108 rfl (by decide +kernel)) ?_
  refine aSims_c (i := 4) (s_aload_n hC dX4_beginRows_6 rfl rfl) ?_
  refine aSims_c (i := 5) (s_get hC dX4_beginRows_7 rfl rfl w_427 rfl rfl inB4 (by decide)) ?_
  refine aSims_c (i := 6) (s_iconst hC dX4_beginRows_10 rfl rfl rfl) ?_
  refine aSims_c (i := 7) (s_aaload hC dX4_beginRows_11 rfl rfl) ?_
  refine aSims_c (i := 8) (s_aload_n hC dX4_beginRows_12 rfl rfl) ?_
  refine aSims_c (i := 9) (s_callV (n := 1) hC dX4_beginRows_13 rfl rfl (hE 2 _ _ _ _ rfl) (hF _ (by decide)) w_653 w_650 w_651 w_652 w_99 rfl (by decide +kernel)) ?_
  refine aSims_c (i := 10) (s_aload_n hC dX4_beginRows_16 rfl rfl) ?_
  refine aSims_c (i := 11) (s_iconst hC dX4_beginRows_17 rfl rfl rfl) ?_
  refine aSims_c (i := 12) (s_put hC dX4_beginRows_18 rfl rfl w_421 rfl rfl inB4 tyX4_ok nmX4 (by decide) rfl) ?_
  refine aSims_c (i := 13) (s_aload_n hC dX4_beginRows_21 rfl rfl) ?_
  refine aSims_c (i := 14) (s_iconst hC dX4_beginRows_22 rfl rfl rfl) ?_
  refine aSims_c (i := 15) (s_put hC dX4_beginRows_23 rfl rfl w_423 rfl rfl inB4 tyX4_ok nmX4 (by decide) rfl) ?_
  refine aSims_c (i := 16) (s_aload_n hC dX4_beginRows_26 rfl rfl) ?_
  refine aSims_c (i := 17) (s_iconst hC dX4_beginRows_27 rfl rfl rfl) ?_
  refine aSims_c (i := 18) (s_put hC dX4_beginRows_28 rfl rfl w_425 rfl rfl inB4 tyX4_ok nmX4 (by decide) rfl) ?_
  refine aSims_c (i := 19) (s_vret hC dX4_beginRows_31 rfl hr hlk) ?_
  exact aSims_n
set_option maxHeartbeats 4000000 in
set_option maxRecDepth 20000 in
theorem sm_X4_tryRows (hC : aC p s m args c cX4_tryRows 6 RX4 D cA ad bs n0 H0 X) (hF : ∀ ml, ml ≤ 41 → aFit R d ml) (hRm : 16 ≤ R.frames ∧ 1000 ≤ R.locals) (hE : aCalls l D cA ad bs X d E) (hr : meth.sig.returnType = none) (hlk : meth.locks = false) : aSims (fun f i => aSim p l e R s m args below meth c (aEnd below s args D cA ad bs n0 z0 rv hf) 6 D cA ad bs n0 z0 H0 (apc pc_X4_tryRows) rv hf E f i) (cd_X4_tryRows) 0 := by
  unfold cd_X4_tryRows
  refine aSims_c (i := 0) (s_iload_n hC dX4_tryRows_0 rfl rfl) ?_
  refine aSims_c (i := 1) (s_if_lt hC dX4_tryRows_1 rfl rfl rfl) ?_
  refine aSims_c (i := 2) (s_iload_n hC dX4_tryRows_4 rfl rfl) ?_
  refine aSims_c (i := 3) (s_iconst hC dX4_tryRows_5 rfl rfl rfl) ?_
  refine aSims_c (i := 4) (s_icmp_le hC dX4_tryRows_6 rfl rfl rfl) ?_
  refine aSims_c (i := 5) (s_vret hC dX4_tryRows_9 rfl hr hlk) ?_
  refine aSims_c (i := 6) (s_iload_n hC dX4_tryRows_10 rfl rfl) ?_
  refine aSims_c (i := 7) (s_iload_n hC dX4_tryRows_11 rfl rfl) ?_
  refine aSims_c (i := 8) (s_icmp_ge hC dX4_tryRows_12 rfl rfl rfl) ?_
  refine aSims_c (i := 9) (s_iload_n hC dX4_tryRows_15 rfl rfl) ?_
  refine aSims_c (i := 10) (s_iconst hC dX4_tryRows_16 rfl rfl rfl) ?_
  refine aSims_c (i := 11) (s_icmp_ge hC dX4_tryRows_17 rfl rfl rfl) ?_
  refine aSims_c (i := 12) (s_iconst hC dX4_tryRows_20 rfl rfl rfl) ?_
  refine aSims_c (i := 13) (s_istore hC dX4_tryRows_21 rfl rfl) ?_
  refine aSims_c (i := 14) (s_iload hC dX4_tryRows_23 rfl rfl) ?_
  refine aSims_c (i := 15) (s_bipush hC dX4_tryRows_25 rfl rfl rfl) ?_
  refine aSims_c (i := 16) (s_icmp_ge hC dX4_tryRows_27 rfl rfl rfl) ?_
  refine aSims_c (i := 17) (s_aload_n hC dX4_tryRows_30 rfl rfl) ?_
  refine aSims_c (i := 18) (s_get hC dX4_tryRows_31 rfl rfl w_427 rfl rfl inB4 (by decide)) ?_
  refine aSims_c (i := 19) (s_iload_n hC dX4_tryRows_34 rfl rfl) ?_
  refine aSims_c (i := 20) (s_iconst hC dX4_tryRows_35 rfl rfl rfl) ?_
  refine aSims_c (i := 21) (s_iadd hC dX4_tryRows_36 rfl rfl) ?_
  refine aSims_c (i := 22) (s_aaload hC dX4_tryRows_37 rfl rfl) ?_
  refine aSims_c (i := 23) (s_aload_n hC dX4_tryRows_38 rfl rfl) ?_
  refine aSims_c (i := 24) (s_get hC dX4_tryRows_39 rfl rfl w_427 rfl rfl inB4 (by decide)) ?_
  refine aSims_c (i := 25) (s_iload_n hC dX4_tryRows_42 rfl rfl) ?_
  refine aSims_c (i := 26) (s_aaload hC dX4_tryRows_43 rfl rfl) ?_
  refine aSims_c (i := 27) (s_callV (n := 1) hC dX4_tryRows_44 rfl rfl (hE 2 _ _ _ _ rfl) (hF _ (by decide)) w_653 w_650 w_651 w_652 w_99 rfl (by decide +kernel)) ?_
  refine aSims_c (i := 28) (s_aload_n hC dX4_tryRows_47 rfl rfl) ?_
  refine aSims_c (i := 29) (s_get hC dX4_tryRows_48 rfl rfl w_417 rfl rfl inB4 (by decide)) ?_
  refine aSims_c (i := 30) (s_aload_n hC dX4_tryRows_51 rfl rfl) ?_
  refine aSims_c (i := 31) (s_get hC dX4_tryRows_52 rfl rfl w_427 rfl rfl inB4 (by decide)) ?_
  refine aSims_c (i := 32) (s_iload_n hC dX4_tryRows_55 rfl rfl) ?_
  refine aSims_c (i := 33) (s_iconst hC dX4_tryRows_56 rfl rfl rfl) ?_
  refine aSims_c (i := 34) (s_iadd hC dX4_tryRows_57 rfl rfl) ?_
  refine aSims_c (i := 35) (s_aaload hC dX4_tryRows_58 rfl rfl) ?_
  refine aSims_c (i := 36) (s_iload hC dX4_tryRows_59 rfl rfl) ?_
  refine aSims_c (i := 37) (s_iload_n hC dX4_tryRows_61 rfl rfl) ?_
  refine aSims_c (i := 38) (s_callV (n := 3) hC dX4_tryRows_62 rfl rfl (hE 63 _ _ _ _ rfl) (hF _ (by decide)) w_616 w_655 w_614 w_615 w_107 rfl (by decide +kernel)) ?_
  refine aSims_c (i := 39) (s_aload_n hC dX4_tryRows_65 rfl rfl) ?_
  refine aSims_c (i := 40) (s_iload_n hC dX4_tryRows_66 rfl rfl) ?_
  refine aSims_c (i := 41) (s_iconst hC dX4_tryRows_67 rfl rfl rfl) ?_
  refine aSims_c (i := 42) (s_iadd hC dX4_tryRows_68 rfl rfl) ?_
  refine aSims_c (i := 43) (s_iload_n hC dX4_tryRows_69 rfl rfl) ?_
  refine aSims_c (i := 44) (s_iload_n hC dX4_tryRows_70 rfl rfl) ?_
  refine aSims_c (i := 45) (s_bipush hC dX4_tryRows_71 rfl rfl rfl) ?_
  refine aSims_c (i := 46) (s_iload hC dX4_tryRows_73 rfl rfl) ?_
  refine aSims_c (i := 47) (s_imul hC dX4_tryRows_75 rfl rfl) ?_
  refine aSims_c (i := 48) (s_iload hC dX4_tryRows_76 rfl rfl) ?_
  refine aSims_c (i := 49) (s_iadd hC dX4_tryRows_78 rfl rfl) ?_
  refine aSims_c (i := 50) (s_iconst hC dX4_tryRows_79 rfl rfl rfl) ?_
  refine aSims_c (i := 51) (s_iadd hC dX4_tryRows_80 rfl rfl) ?_
  refine aSims_c (i := 52) (s_callV (n := 4) hC dX4_tryRows_81 rfl rfl (hE 47 _ _ _ _ rfl) (hF _ (by decide)) w_671 w_672 w_670 w_22 w_108 rfl (by decide +kernel)) ?_
  refine aSims_c (i := 53) (s_iinc hC dX4_tryRows_84 rfl rfl) ?_
  refine aSims_c (i := 54) (s_goto hC dX4_tryRows_87 rfl rfl) ?_
  refine aSims_c (i := 55) (s_vret hC dX4_tryRows_90 rfl hr hlk) ?_
  refine aSims_c (i := 56) (s_aload_n hC dX4_tryRows_91 rfl rfl) ?_
  refine aSims_c (i := 57) (s_get hC dX4_tryRows_92 rfl rfl w_417 rfl rfl inB4 (by decide)) ?_
  refine aSims_c (i := 58) (s_aload_n hC dX4_tryRows_95 rfl rfl) ?_
  refine aSims_c (i := 59) (s_get hC dX4_tryRows_96 rfl rfl w_427 rfl rfl inB4 (by decide)) ?_
  refine aSims_c (i := 60) (s_iload_n hC dX4_tryRows_99 rfl rfl) ?_
  refine aSims_c (i := 61) (s_aaload hC dX4_tryRows_100 rfl rfl) ?_
  refine aSims_c (i := 62) (s_callV (n := 1) hC dX4_tryRows_101 rfl rfl (hE 60 _ _ _ _ rfl) (hF _ (by decide)) w_565 w_673 w_563 w_564 w_107 rfl (by decide +kernel)) ?_
  refine aSims_c (i := 63) (s_istore hC dX4_tryRows_104 rfl rfl) ?_
  refine aSims_c (i := 64) (s_iload hC dX4_tryRows_106 rfl rfl) ?_
  refine aSims_c (i := 65) (s_aload_n hC dX4_tryRows_108 rfl rfl) ?_
  refine aSims_c (i := 66) (s_get hC dX4_tryRows_109 rfl rfl w_423 rfl rfl inB4 (by decide)) ?_
  refine aSims_c (i := 67) (s_icmp_le hC dX4_tryRows_112 rfl rfl rfl) ?_
  refine aSims_c (i := 68) (s_aload_n hC dX4_tryRows_115 rfl rfl) ?_
  refine aSims_c (i := 69) (s_iload hC dX4_tryRows_116 rfl rfl) ?_
  refine aSims_c (i := 70) (s_put hC dX4_tryRows_118 rfl rfl w_423 rfl rfl inB4 tyX4_ok nmX4 (by decide) rfl) ?_
  refine aSims_c (i := 71) (s_aload_n hC dX4_tryRows_121 rfl rfl) ?_
  refine aSims_c (i := 72) (s_iload hC dX4_tryRows_122 rfl rfl) ?_
  refine aSims_c (i := 73) (s_put hC dX4_tryRows_124 rfl rfl w_421 rfl rfl inB4 tyX4_ok nmX4 (by decide) rfl) ?_
  refine aSims_c (i := 74) (s_aload_n hC dX4_tryRows_127 rfl rfl) ?_
  refine aSims_c (i := 75) (s_aload_n hC dX4_tryRows_128 rfl rfl) ?_
  refine aSims_c (i := 76) (s_get hC dX4_tryRows_129 rfl rfl w_427 rfl rfl inB4 (by decide)) ?_
  refine aSims_c (i := 77) (s_iload_n hC dX4_tryRows_132 rfl rfl) ?_
  refine aSims_c (i := 78) (s_aaload hC dX4_tryRows_133 rfl rfl) ?_
  refine aSims_c (i := 79) (s_get hC dX4_tryRows_134 rfl rfl w_192 rfl rfl inB0 (by decide)) ?_
  refine aSims_c (i := 80) (s_aload_n hC dX4_tryRows_137 rfl rfl) ?_
  refine aSims_c (i := 81) (s_get hC dX4_tryRows_138 rfl rfl w_419 rfl rfl inB4 (by decide)) ?_
  refine aSims_c (i := 82) (s_get hC dX4_tryRows_141 rfl rfl w_192 rfl rfl inB0 (by decide)) ?_
  refine aSims_c (i := 83) (s_isub hC dX4_tryRows_144 rfl rfl) ?_
  refine aSims_c (i := 84) (s_put hC dX4_tryRows_145 rfl rfl w_425 rfl rfl inB4 tyX4_ok nmX4 (by decide) rfl) ?_
  refine aSims_c (i := 85) (s_vret hC dX4_tryRows_148 rfl hr hlk) ?_
  exact aSims_n
set_option maxHeartbeats 4000000 in
set_option maxRecDepth 20000 in
theorem sm_X4_daysTill (hC : aC p s m args c cX4_daysTill 7 RX4 D cA ad bs n0 H0 X) (hF : ∀ ml, ml ≤ 41 → aFit R d ml) (hRm : 16 ≤ R.frames ∧ 1000 ≤ R.locals) (hE : aCalls l D cA ad bs X d E) (hr : meth.sig.returnType = (some .int)) (hlk : meth.locks = false) : aSims (fun f i => aSim p l e R s m args below meth c (aEnd below s args D cA ad bs n0 z0 rv hf) 7 D cA ad bs n0 z0 H0 (apc pc_X4_daysTill) rv hf E f i) (cd_X4_daysTill) 0 := by
  unfold cd_X4_daysTill
  refine aSims_c (i := 0) (s_aload_n hC dX4_daysTill_0 rfl rfl) ?_
  refine aSims_c (i := 1) (s_aload_n hC dX4_daysTill_1 rfl rfl) ?_
  refine aSims_c (i := 2) (s_aload_n hC dX4_daysTill_2 rfl rfl) ?_
  refine aSims_c (i := 3) (s_callV (n := 2) hC dX4_daysTill_3 rfl rfl (hE 44 _ _ _ _ rfl) (hF _ (by decide)) w_644 w_641 w_642 w_643 w_108 rfl (by decide +kernel)) ?_
  refine aSims_c (i := 4) (s_aload_n hC dX4_daysTill_6 rfl rfl) ?_
  refine aSims_c (i := 5) (s_get hC dX4_daysTill_7 rfl rfl w_417 rfl rfl inB4 (by decide)) ?_
  refine aSims_c (i := 6) (s_aload_n hC dX4_daysTill_10 rfl rfl) ?_
  refine aSims_c (i := 7) (s_get hC dX4_daysTill_11 rfl rfl w_419 rfl rfl inB4 (by decide)) ?_
  refine aSims_c (i := 8) (s_callV (n := 1) hC dX4_daysTill_14 rfl rfl (hE 61 _ _ _ _ rfl) (hF _ (by decide)) w_526 w_682 w_524 w_525 w_107 rfl (by decide +kernel)) ?_
  refine aSims_c (i := 9) (s_if_eq hC dX4_daysTill_17 rfl rfl rfl) ?_
  refine aSims_c (i := 10) (s_iconst hC dX4_daysTill_20 rfl rfl rfl) ?_
  refine aSims_c (i := 11) (s_iret hC dX4_daysTill_21 rfl hr hlk nar_qI) ?_
  refine aSims_c (i := 12) (s_iconst hC dX4_daysTill_22 rfl rfl rfl) ?_
  refine aSims_c (i := 13) (s_istore hC dX4_daysTill_23 rfl rfl) ?_
  refine aSims_c (i := 14) (s_iload hC dX4_daysTill_25 rfl rfl) ?_
  refine aSims_c (i := 15) (s_bipush hC dX4_daysTill_27 rfl rfl rfl) ?_
  refine aSims_c (i := 16) (s_icmp_gt hC dX4_daysTill_29 rfl rfl rfl) ?_
  refine aSims_c (i := 17) (s_iconst hC dX4_daysTill_32 rfl rfl rfl) ?_
  refine aSims_c (i := 18) (s_istore hC dX4_daysTill_33 rfl rfl) ?_
  refine aSims_c (i := 19) (s_iload hC dX4_daysTill_35 rfl rfl) ?_
  refine aSims_c (i := 20) (s_iload hC dX4_daysTill_37 rfl rfl) ?_
  refine aSims_c (i := 21) (s_icmp_ge hC dX4_daysTill_39 rfl rfl rfl) ?_
  refine aSims_c (i := 22) (s_aload_n hC dX4_daysTill_42 rfl rfl) ?_
  refine aSims_c (i := 23) (s_get hC dX4_daysTill_43 rfl rfl w_417 rfl rfl inB4 (by decide)) ?_
  refine aSims_c (i := 24) (s_aload_n hC dX4_daysTill_46 rfl rfl) ?_
  refine aSims_c (i := 25) (s_get hC dX4_daysTill_47 rfl rfl w_419 rfl rfl inB4 (by decide)) ?_
  refine aSims_c (i := 26) (s_aload_n hC dX4_daysTill_50 rfl rfl) ?_
  refine aSims_c (i := 27) (s_get hC dX4_daysTill_51 rfl rfl w_419 rfl rfl inB4 (by decide)) ?_
  refine aSims_c (i := 28) (s_callV (n := 0) hC dX4_daysTill_54 rfl rfl (hE 10 _ _ _ _ rfl) (hF _ (by decide)) w_686 w_683 w_684 w_685 w_99 rfl (by decide +kernel)) ?_
  refine aSims_c (i := 29) (s_iload_n hC dX4_daysTill_57 rfl rfl) ?_
  refine aSims_c (i := 30) (s_callV (n := 3) hC dX4_daysTill_58 rfl rfl (hE 63 _ _ _ _ rfl) (hF _ (by decide)) w_616 w_655 w_614 w_615 w_107 rfl (by decide +kernel)) ?_
  refine aSims_c (i := 31) (s_iinc hC dX4_daysTill_61 rfl rfl) ?_
  refine aSims_c (i := 32) (s_goto hC dX4_daysTill_64 rfl rfl) ?_
  refine aSims_c (i := 33) (s_aload_n hC dX4_daysTill_67 rfl rfl) ?_
  refine aSims_c (i := 34) (s_get hC dX4_daysTill_68 rfl rfl w_417 rfl rfl inB4 (by decide)) ?_
  refine aSims_c (i := 35) (s_aload_n hC dX4_daysTill_71 rfl rfl) ?_
  refine aSims_c (i := 36) (s_get hC dX4_daysTill_72 rfl rfl w_419 rfl rfl inB4 (by decide)) ?_
  refine aSims_c (i := 37) (s_callV (n := 1) hC dX4_daysTill_75 rfl rfl (hE 61 _ _ _ _ rfl) (hF _ (by decide)) w_526 w_682 w_524 w_525 w_107 rfl (by decide +kernel)) ?_
  refine aSims_c (i := 38) (s_if_eq hC dX4_daysTill_78 rfl rfl rfl) ?_
  refine aSims_c (i := 39) (s_iload hC dX4_daysTill_81 rfl rfl) ?_
  refine aSims_c (i := 40) (s_iret hC dX4_daysTill_83 rfl hr hlk nar_qI) ?_
  refine aSims_c (i := 41) (s_aload_n hC dX4_daysTill_84 rfl rfl) ?_
  refine aSims_c (i := 42) (s_callV (n := 0) hC dX4_daysTill_85 rfl rfl (hE 49 _ _ _ _ rfl) (hF _ (by decide)) w_690 w_687 w_689 w_23 w_108 rfl (by decide +kernel)) ?_
  refine aSims_c (i := 43) (s_iinc hC dX4_daysTill_88 rfl rfl) ?_
  refine aSims_c (i := 44) (s_goto hC dX4_daysTill_91 rfl rfl) ?_
  refine aSims_c (i := 45) (s_iconst hC dX4_daysTill_94 rfl rfl rfl) ?_
  refine aSims_c (i := 46) (s_iret hC dX4_daysTill_95 rfl hr hlk nar_qI) ?_
  exact aSims_n
set_option maxHeartbeats 4000000 in
set_option maxRecDepth 20000 in
theorem sm_X4_passNight (hC : aC p s m args c cX4_passNight 1 RX4 D cA ad bs n0 H0 X) (hF : ∀ ml, ml ≤ 41 → aFit R d ml) (hRm : 16 ≤ R.frames ∧ 1000 ≤ R.locals) (hE : aCalls l D cA ad bs X d E) (hr : meth.sig.returnType = none) (hlk : meth.locks = false) : aSims (fun f i => aSim p l e R s m args below meth c (aEnd below s args D cA ad bs n0 z0 rv hf) 1 D cA ad bs n0 z0 H0 (apc pc_X4_passNight) rv hf E f i) (cd_X4_passNight) 0 := by
  unfold cd_X4_passNight
  refine aSims_c (i := 0) (s_aload_n hC dX4_passNight_0 rfl rfl) ?_
  refine aSims_c (i := 1) (s_get hC dX4_passNight_1 rfl rfl w_417 rfl rfl inB4 (by decide)) ?_
  refine aSims_c (i := 2) (s_aload_n hC dX4_passNight_4 rfl rfl) ?_
  refine aSims_c (i := 3) (s_get hC dX4_passNight_5 rfl rfl w_419 rfl rfl inB4 (by decide)) ?_
  refine aSims_c (i := 4) (s_callV (n := 1) hC dX4_passNight_8 rfl rfl (hE 64 _ _ _ _ rfl) (hF _ (by decide)) w_626 w_691 w_624 w_625 w_107 rfl (by decide +kernel)) ?_
  refine aSims_c (i := 5) (s_aload_n hC dX4_passNight_11 rfl rfl) ?_
  refine aSims_c (i := 6) (s_get hC dX4_passNight_12 rfl rfl w_417 rfl rfl inB4 (by decide)) ?_
  refine aSims_c (i := 7) (s_dup hC dX4_passNight_15 rfl rfl) ?_
  refine aSims_c (i := 8) (s_get hC dX4_passNight_16 rfl rfl w_393 rfl rfl inB5 (by decide)) ?_
  refine aSims_c (i := 9) (s_iconst hC dX4_passNight_19 rfl rfl rfl) ?_
  refine aSims_c (i := 10) (s_iadd hC dX4_passNight_20 rfl rfl) ?_
  refine aSims_c (i := 11) (s_put hC dX4_passNight_21 rfl rfl w_393 rfl rfl inB5 tyX5_ok nmX5 (by decide) rfl) ?_
  refine aSims_c (i := 12) (s_vret hC dX4_passNight_24 rfl hr hlk) ?_
  exact aSims_n
set_option maxHeartbeats 4000000 in
set_option maxRecDepth 20000 in
theorem sm_X4_bumpsTill (hC : aC p s m args c cX4_bumpsTill 5 RX4 D cA ad bs n0 H0 X) (hF : ∀ ml, ml ≤ 41 → aFit R d ml) (hRm : 16 ≤ R.frames ∧ 1000 ≤ R.locals) (hE : aCalls l D cA ad bs X d E) (hr : meth.sig.returnType = (some .int)) (hlk : meth.locks = false) : aSims (fun f i => aSim p l e R s m args below meth c (aEnd below s args D cA ad bs n0 z0 rv hf) 5 D cA ad bs n0 z0 H0 (apc pc_X4_bumpsTill) rv hf E f i) (cd_X4_bumpsTill) 0 := by
  unfold cd_X4_bumpsTill
  refine aSims_c (i := 0) (s_aload_n hC dX4_bumpsTill_0 rfl rfl) ?_
  refine aSims_c (i := 1) (s_aload_n hC dX4_bumpsTill_1 rfl rfl) ?_
  refine aSims_c (i := 2) (s_aload_n hC dX4_bumpsTill_2 rfl rfl) ?_
  refine aSims_c (i := 3) (s_callV (n := 2) hC dX4_bumpsTill_3 rfl rfl (hE 44 _ _ _ _ rfl) (hF _ (by decide)) w_644 w_641 w_642 w_643 w_108 rfl (by decide +kernel)) ?_
  refine aSims_c (i := 4) (s_iconst hC dX4_bumpsTill_6 rfl rfl rfl) ?_
  refine aSims_c (i := 5) (s_istore hC dX4_bumpsTill_7 rfl rfl) ?_
  refine aSims_c (i := 6) (s_iload hC dX4_bumpsTill_9 rfl rfl) ?_
  refine aSims_c (i := 7) (s_bipush hC dX4_bumpsTill_11 rfl rfl rfl) ?_
  refine aSims_c (i := 8) (s_icmp_gt hC dX4_bumpsTill_13 rfl rfl rfl) ?_
  refine aSims_c (i := 9) (s_aload_n hC dX4_bumpsTill_16 rfl rfl) ?_
  refine aSims_c (i := 10) (s_get hC dX4_bumpsTill_17 rfl rfl w_417 rfl rfl inB4 (by decide)) ?_
  refine aSims_c (i := 11) (s_aload_n hC dX4_bumpsTill_20 rfl rfl) ?_
  refine aSims_c (i := 12) (s_get hC dX4_bumpsTill_21 rfl rfl w_419 rfl rfl inB4 (by decide)) ?_
  refine aSims_c (i := 13) (s_iload_n hC dX4_bumpsTill_24 rfl rfl) ?_
  refine aSims_c (i := 14) (s_callV (n := 2) hC dX4_bumpsTill_25 rfl rfl (hE 59 _ _ _ _ rfl) (hF _ (by decide)) w_530 w_700 w_528 w_529 w_107 rfl (by decide +kernel)) ?_
  refine aSims_c (i := 15) (s_if_lt hC dX4_bumpsTill_28 rfl rfl rfl) ?_
  refine aSims_c (i := 16) (s_iload hC dX4_bumpsTill_31 rfl rfl) ?_
  refine aSims_c (i := 17) (s_iret hC dX4_bumpsTill_33 rfl hr hlk nar_qI) ?_
  refine aSims_c (i := 18) (s_aload_n hC dX4_bumpsTill_34 rfl rfl) ?_
  refine aSims_c (i := 19) (s_get hC dX4_bumpsTill_35 rfl rfl w_417 rfl rfl inB4 (by decide)) ?_
  refine aSims_c (i := 20) (s_aload_n hC dX4_bumpsTill_38 rfl rfl) ?_
  refine aSims_c (i := 21) (s_get hC dX4_bumpsTill_39 rfl rfl w_419 rfl rfl inB4 (by decide)) ?_
  refine aSims_c (i := 22) (s_iload_n hC dX4_bumpsTill_42 rfl rfl) ?_
  refine aSims_c (i := 23) (s_iconst hC dX4_bumpsTill_43 rfl rfl rfl) ?_
  refine aSims_c (i := 24) (s_callV (n := 3) hC dX4_bumpsTill_44 rfl rfl (hE 63 _ _ _ _ rfl) (hF _ (by decide)) w_616 w_655 w_614 w_615 w_107 rfl (by decide +kernel)) ?_
  refine aSims_c (i := 25) (s_iinc hC dX4_bumpsTill_47 rfl rfl) ?_
  refine aSims_c (i := 26) (s_goto hC dX4_bumpsTill_50 rfl rfl) ?_
  refine aSims_c (i := 27) (s_iconst hC dX4_bumpsTill_53 rfl rfl rfl) ?_
  refine aSims_c (i := 28) (s_iret hC dX4_bumpsTill_54 rfl hr hlk nar_qI) ?_
  exact aSims_n
set_option maxHeartbeats 4000000 in
set_option maxRecDepth 20000 in
theorem sm_X4_managedBehind (hC : aC p s m args c cX4_managedBehind 5 RX4 D cA ad bs n0 H0 X) (hF : ∀ ml, ml ≤ 41 → aFit R d ml) (hRm : 16 ≤ R.frames ∧ 1000 ≤ R.locals) (hE : aCalls l D cA ad bs X d E) (hr : meth.sig.returnType = (some .int)) (hlk : meth.locks = false) : aSims (fun f i => aSim p l e R s m args below meth c (aEnd below s args D cA ad bs n0 z0 rv hf) 5 D cA ad bs n0 z0 H0 (apc pc_X4_managedBehind) rv hf E f i) (cd_X4_managedBehind) 0 := by
  unfold cd_X4_managedBehind
  refine aSims_c (i := 0) (s_aload_n hC dX4_managedBehind_0 rfl rfl) ?_
  refine aSims_c (i := 1) (s_aload_n hC dX4_managedBehind_1 rfl rfl) ?_
  refine aSims_c (i := 2) (s_aload_n hC dX4_managedBehind_2 rfl rfl) ?_
  refine aSims_c (i := 3) (s_callV (n := 2) hC dX4_managedBehind_3 rfl rfl (hE 44 _ _ _ _ rfl) (hF _ (by decide)) w_644 w_641 w_642 w_643 w_108 rfl (by decide +kernel)) ?_
  refine aSims_c (i := 4) (s_iconst hC dX4_managedBehind_6 rfl rfl rfl) ?_
  refine aSims_c (i := 5) (s_istore hC dX4_managedBehind_7 rfl rfl) ?_
  refine aSims_c (i := 6) (s_iload hC dX4_managedBehind_9 rfl rfl) ?_
  refine aSims_c (i := 7) (s_iload_n hC dX4_managedBehind_11 rfl rfl) ?_
  refine aSims_c (i := 8) (s_icmp_ge hC dX4_managedBehind_12 rfl rfl rfl) ?_
  refine aSims_c (i := 9) (s_aload_n hC dX4_managedBehind_15 rfl rfl) ?_
  refine aSims_c (i := 10) (s_callV (n := 0) hC dX4_managedBehind_16 rfl rfl (hE 49 _ _ _ _ rfl) (hF _ (by decide)) w_690 w_687 w_689 w_23 w_108 rfl (by decide +kernel)) ?_
  refine aSims_c (i := 11) (s_iinc hC dX4_managedBehind_19 rfl rfl) ?_
  refine aSims_c (i := 12) (s_goto hC dX4_managedBehind_22 rfl rfl) ?_
  refine aSims_c (i := 13) (s_aload_n hC dX4_managedBehind_25 rfl rfl) ?_
  refine aSims_c (i := 14) (s_get hC dX4_managedBehind_26 rfl rfl w_417 rfl rfl inB4 (by decide)) ?_
  refine aSims_c (i := 15) (s_aload_n hC dX4_managedBehind_29 rfl rfl) ?_
  refine aSims_c (i := 16) (s_get hC dX4_managedBehind_30 rfl rfl w_419 rfl rfl inB4 (by decide)) ?_
  refine aSims_c (i := 17) (s_callV (n := 1) hC dX4_managedBehind_33 rfl rfl (hE 60 _ _ _ _ rfl) (hF _ (by decide)) w_565 w_673 w_563 w_564 w_107 rfl (by decide +kernel)) ?_
  refine aSims_c (i := 18) (s_iret hC dX4_managedBehind_36 rfl hr hlk nar_qI) ?_
  exact aSims_n
set_option maxHeartbeats 4000000 in
set_option maxRecDepth 20000 in
theorem sm_X4_firstOtherwise (hC : aC p s m args c cX4_firstOtherwise 5 RX4 D cA ad bs n0 H0 X) (hF : ∀ ml, ml ≤ 41 → aFit R d ml) (hRm : 16 ≤ R.frames ∧ 1000 ≤ R.locals) (hE : aCalls l D cA ad bs X d E) (hr : meth.sig.returnType = (some .int)) (hlk : meth.locks = false) : aSims (fun f i => aSim p l e R s m args below meth c (aEnd below s args D cA ad bs n0 z0 rv hf) 5 D cA ad bs n0 z0 H0 (apc pc_X4_firstOtherwise) rv hf E f i) (cd_X4_firstOtherwise) 0 := by
  unfold cd_X4_firstOtherwise
  refine aSims_c (i := 0) (s_iconst hC dX4_firstOtherwise_0 rfl rfl rfl) ?_
  refine aSims_c (i := 1) (s_istore hC dX4_firstOtherwise_1 rfl rfl) ?_
  refine aSims_c (i := 2) (s_iload hC dX4_firstOtherwise_3 rfl rfl) ?_
  refine aSims_c (i := 3) (s_aload_n hC dX4_firstOtherwise_5 rfl rfl) ?_
  refine aSims_c (i := 4) (s_get hC dX4_firstOtherwise_6 rfl rfl w_218 rfl rfl inB2 (by decide)) ?_
  refine aSims_c (i := 5) (s_icmp_ge hC dX4_firstOtherwise_9 rfl rfl rfl) ?_
  refine aSims_c (i := 6) (s_iload hC dX4_firstOtherwise_12 rfl rfl) ?_
  refine aSims_c (i := 7) (s_bipush hC dX4_firstOtherwise_14 rfl rfl rfl) ?_
  refine aSims_c (i := 8) (s_icmp_ge hC dX4_firstOtherwise_16 rfl rfl rfl) ?_
  refine aSims_c (i := 9) (s_aload_n hC dX4_firstOtherwise_19 rfl rfl) ?_
  refine aSims_c (i := 10) (s_get hC dX4_firstOtherwise_20 rfl rfl w_417 rfl rfl inB4 (by decide)) ?_
  refine aSims_c (i := 11) (s_aload_n hC dX4_firstOtherwise_23 rfl rfl) ?_
  refine aSims_c (i := 12) (s_get hC dX4_firstOtherwise_24 rfl rfl w_419 rfl rfl inB4 (by decide)) ?_
  refine aSims_c (i := 13) (s_iload_n hC dX4_firstOtherwise_27 rfl rfl) ?_
  refine aSims_c (i := 14) (s_iload_n hC dX4_firstOtherwise_28 rfl rfl) ?_
  refine aSims_c (i := 15) (s_callV (n := 3) hC dX4_firstOtherwise_29 rfl rfl (hE 63 _ _ _ _ rfl) (hF _ (by decide)) w_616 w_655 w_614 w_615 w_107 rfl (by decide +kernel)) ?_
  refine aSims_c (i := 16) (s_aload_n hC dX4_firstOtherwise_32 rfl rfl) ?_
  refine aSims_c (i := 17) (s_get hC dX4_firstOtherwise_33 rfl rfl w_220 rfl rfl inB2 (by decide)) ?_
  refine aSims_c (i := 18) (s_iload hC dX4_firstOtherwise_36 rfl rfl) ?_
  refine aSims_c (i := 19) (s_iaload hC hX0 dX4_firstOtherwise_38 rfl rfl) ?_
  refine aSims_c (i := 20) (s_aload_n hC dX4_firstOtherwise_39 rfl rfl) ?_
  refine aSims_c (i := 21) (s_get hC dX4_firstOtherwise_40 rfl rfl w_419 rfl rfl inB4 (by decide)) ?_
  refine aSims_c (i := 22) (s_get hC dX4_firstOtherwise_43 rfl rfl w_197 rfl rfl inB0 (by decide)) ?_
  refine aSims_c (i := 23) (s_iload_n hC dX4_firstOtherwise_46 rfl rfl) ?_
  refine aSims_c (i := 24) (s_iaload hC hX0 dX4_firstOtherwise_47 rfl rfl) ?_
  refine aSims_c (i := 25) (s_icmp_eq hC dX4_firstOtherwise_48 rfl rfl rfl) ?_
  refine aSims_c (i := 26) (s_iload hC dX4_firstOtherwise_51 rfl rfl) ?_
  refine aSims_c (i := 27) (s_iret hC dX4_firstOtherwise_53 rfl hr hlk nar_qI) ?_
  refine aSims_c (i := 28) (s_iinc hC dX4_firstOtherwise_54 rfl rfl) ?_
  refine aSims_c (i := 29) (s_goto hC dX4_firstOtherwise_57 rfl rfl) ?_
  refine aSims_c (i := 30) (s_iconst hC dX4_firstOtherwise_60 rfl rfl rfl) ?_
  refine aSims_c (i := 31) (s_iret hC dX4_firstOtherwise_61 rfl hr hlk nar_qI) ?_
  exact aSims_n
set_option maxHeartbeats 4000000 in
set_option maxRecDepth 20000 in
theorem sm_X5_init (hC : aC p s m args c cX5_init 2 RX5 D cA ad bs n0 H0 X) (hF : ∀ ml, ml ≤ 41 → aFit R d ml) (hRm : 16 ≤ R.frames ∧ 1000 ≤ R.locals) (hE : aCalls l D cA ad bs X d E) (hr : meth.sig.returnType = none) (hlk : meth.locks = false) (hin : meth.name = "<init>") : aSims (fun f i => aSim p l e R s m args below meth c (aEnd below s args D cA ad bs n0 z0 rv hf) 2 D cA ad bs n0 z0 H0 (apc pc_X5_init) rv hf E f i) (cd_X5_init) 0 := by
  unfold cd_X5_init
  refine aSims_c (i := 0) (s_aload_n hC dX5_init_0 rfl rfl) ?_
  refine aSims_c (i := 1) (s_objinit hC hRm dX5_init_1 rfl rfl w_387 ⟨w_117, w_118⟩) ?_
  refine aSims_c (i := 2) (s_aload_n hC dX5_init_4 rfl rfl) ?_
  refine aSims_c (i := 3) (s_bipush hC dX5_init_5 rfl rfl rfl) ?_
  refine aSims_c (i := 4) (s_newarray (t0 := 0) hC dX5_init_7 rfl rfl rfl (by decide) w_150) ?_
  refine aSims_c (i := 5) (s_putF hC dX5_init_9 rfl rfl w_389 rfl rfl inB5 tyX5_ok nmX5 (by decide) rfl rfl hin) ?_
  refine aSims_c (i := 6) (s_aload_n hC dX5_init_12 rfl rfl) ?_
  refine aSims_c (i := 7) (s_bipush hC dX5_init_13 rfl rfl rfl) ?_
  refine aSims_c (i := 8) (s_newarray (t0 := 0) hC dX5_init_15 rfl rfl rfl (by decide) w_150) ?_
  refine aSims_c (i := 9) (s_putF hC dX5_init_17 rfl rfl w_396 rfl rfl inB5 tyX5_ok nmX5 (by decide) rfl rfl hin) ?_
  refine aSims_c (i := 10) (s_aload_n hC dX5_init_20 rfl rfl) ?_
  refine aSims_c (i := 11) (s_aload_n hC dX5_init_21 rfl rfl) ?_
  refine aSims_c (i := 12) (s_put hC dX5_init_22 rfl rfl w_394 rfl rfl inB5 tyX5_ok nmX5 (by decide) rfl) ?_
  refine aSims_c (i := 13) (s_aload_n hC dX5_init_25 rfl rfl) ?_
  refine aSims_c (i := 14) (s_get hC dX5_init_26 rfl rfl w_389 rfl rfl inB5 (by decide)) ?_
  refine aSims_c (i := 15) (s_bipush hC dX5_init_29 rfl rfl rfl) ?_
  refine aSims_c (i := 16) (s_callS hC dX5_init_31 rfl rfl (hE 223 _ _ _ _ rfl) (hF _ (by decide)) w_292 w_388 w_291 w_105 (by decide +kernel)) ?_
  refine aSims_c (i := 17) (s_vret hC dX5_init_34 rfl hr hlk) ?_
  exact aSims_n
set_option maxHeartbeats 4000000 in
set_option maxRecDepth 20000 in
theorem sm_X5_become (hC : aC p s m args c cX5_become 2 RX5 D cA ad bs n0 H0 X) (hF : ∀ ml, ml ≤ 41 → aFit R d ml) (hRm : 16 ≤ R.frames ∧ 1000 ≤ R.locals) (hE : aCalls l D cA ad bs X d E) (hr : meth.sig.returnType = none) (hlk : meth.locks = false) : aSims (fun f i => aSim p l e R s m args below meth c (aEnd below s args D cA ad bs n0 z0 rv hf) 2 D cA ad bs n0 z0 H0 (apc pc_X5_become) rv hf E f i) (cd_X5_become) 0 := by
  unfold cd_X5_become
  refine aSims_c (i := 0) (s_aload_n hC dX5_become_0 rfl rfl) ?_
  refine aSims_c (i := 1) (s_aload_n hC dX5_become_1 rfl rfl) ?_
  refine aSims_c (i := 2) (s_get hC dX5_become_2 rfl rfl w_391 rfl rfl inB5 (by decide)) ?_
  refine aSims_c (i := 3) (s_put hC dX5_become_5 rfl rfl w_391 rfl rfl inB5 tyX5_ok nmX5 (by decide) rfl) ?_
  refine aSims_c (i := 4) (s_aload_n hC dX5_become_8 rfl rfl) ?_
  refine aSims_c (i := 5) (s_aload_n hC dX5_become_9 rfl rfl) ?_
  refine aSims_c (i := 6) (s_get hC dX5_become_10 rfl rfl w_394 rfl rfl inB5 (by decide)) ?_
  refine aSims_c (i := 7) (s_put hC dX5_become_13 rfl rfl w_394 rfl rfl inB5 tyX5_ok nmX5 (by decide) rfl) ?_
  refine aSims_c (i := 8) (s_aload_n hC dX5_become_16 rfl rfl) ?_
  refine aSims_c (i := 9) (s_get hC dX5_become_17 rfl rfl w_389 rfl rfl inB5 (by decide)) ?_
  refine aSims_c (i := 10) (s_iconst hC dX5_become_20 rfl rfl rfl) ?_
  refine aSims_c (i := 11) (s_aload_n hC dX5_become_21 rfl rfl) ?_
  refine aSims_c (i := 12) (s_get hC dX5_become_22 rfl rfl w_389 rfl rfl inB5 (by decide)) ?_
  refine aSims_c (i := 13) (s_iconst hC dX5_become_25 rfl rfl rfl) ?_
  refine aSims_c (i := 14) (s_bipush hC dX5_become_26 rfl rfl rfl) ?_
  refine aSims_c (i := 15) (s_arraycopy hC hRm dX5_become_28 rfl rfl w_649 ⟨w_381, w_380, w_106⟩) ?_
  refine aSims_c (i := 16) (s_vret hC dX5_become_31 rfl hr hlk) ?_
  exact aSims_n
set_option maxHeartbeats 4000000 in
set_option maxRecDepth 20000 in
theorem sm_X5_name (hC : aC p s m args c cX5_name 4 RX5 D cA ad bs n0 H0 X) (hF : ∀ ml, ml ≤ 41 → aFit R d ml) (hRm : 16 ≤ R.frames ∧ 1000 ≤ R.locals) (hE : aCalls l D cA ad bs X d E) (hr : meth.sig.returnType = none) (hlk : meth.locks = false) : aSims (fun f i => aSim p l e R s m args below meth c (aEnd below s args D cA ad bs n0 z0 rv hf) 4 D cA ad bs n0 z0 H0 (apc pc_X5_name) rv hf E f i) (cd_X5_name) 0 := by
  unfold cd_X5_name
  refine aSims_c (i := 0) (s_aload_n hC dX5_name_0 rfl rfl) ?_
  refine aSims_c (i := 1) (s_get hC dX5_name_1 rfl rfl w_396 rfl rfl inB5 (by decide)) ?_
  refine aSims_c (i := 2) (s_iconst hC dX5_name_4 rfl rfl rfl) ?_
  refine aSims_c (i := 3) (s_aload_n hC dX5_name_5 rfl rfl) ?_
  refine aSims_c (i := 4) (s_get hC dX5_name_6 rfl rfl w_196 rfl rfl inB0 (by decide)) ?_
  refine aSims_c (i := 5) (s_iload_n hC dX5_name_9 rfl rfl) ?_
  refine aSims_c (i := 6) (s_iaload hC hX0 dX5_name_10 rfl rfl) ?_
  refine aSims_c (i := 7) (s_iastore hC dX5_name_11 rfl rfl) ?_
  refine aSims_c (i := 8) (s_aload_n hC dX5_name_12 rfl rfl) ?_
  refine aSims_c (i := 9) (s_get hC dX5_name_13 rfl rfl w_396 rfl rfl inB5 (by decide)) ?_
  refine aSims_c (i := 10) (s_iconst hC dX5_name_16 rfl rfl rfl) ?_
  refine aSims_c (i := 11) (s_aload_n hC dX5_name_17 rfl rfl) ?_
  refine aSims_c (i := 12) (s_get hC dX5_name_18 rfl rfl w_389 rfl rfl inB5 (by decide)) ?_
  refine aSims_c (i := 13) (s_iload_n hC dX5_name_21 rfl rfl) ?_
  refine aSims_c (i := 14) (s_iaload hC hX0 dX5_name_22 rfl rfl) ?_
  refine aSims_c (i := 15) (s_iastore hC dX5_name_23 rfl rfl) ?_
  refine aSims_c (i := 16) (s_aload_n hC dX5_name_24 rfl rfl) ?_
  refine aSims_c (i := 17) (s_get hC dX5_name_25 rfl rfl w_396 rfl rfl inB5 (by decide)) ?_
  refine aSims_c (i := 18) (s_iconst hC dX5_name_28 rfl rfl rfl) ?_
  refine aSims_c (i := 19) (s_iload_n hC dX5_name_29 rfl rfl) ?_
  refine aSims_c (i := 20) (s_iastore hC dX5_name_30 rfl rfl) ?_
  refine aSims_c (i := 21) (s_aload_n hC dX5_name_31 rfl rfl) ?_
  refine aSims_c (i := 22) (s_get hC dX5_name_32 rfl rfl w_396 rfl rfl inB5 (by decide)) ?_
  refine aSims_c (i := 23) (s_iconst hC dX5_name_35 rfl rfl rfl) ?_
  refine aSims_c (i := 24) (s_aload_n hC dX5_name_36 rfl rfl) ?_
  refine aSims_c (i := 25) (s_get hC dX5_name_37 rfl rfl w_187 rfl rfl inB0 (by decide)) ?_
  refine aSims_c (i := 26) (s_iastore hC dX5_name_40 rfl rfl) ?_
  refine aSims_c (i := 27) (s_aload_n hC dX5_name_41 rfl rfl) ?_
  refine aSims_c (i := 28) (s_get hC dX5_name_42 rfl rfl w_396 rfl rfl inB5 (by decide)) ?_
  refine aSims_c (i := 29) (s_iconst hC dX5_name_45 rfl rfl rfl) ?_
  refine aSims_c (i := 30) (s_aload_n hC dX5_name_46 rfl rfl) ?_
  refine aSims_c (i := 31) (s_get hC dX5_name_47 rfl rfl w_391 rfl rfl inB5 (by decide)) ?_
  refine aSims_c (i := 32) (s_iastore hC dX5_name_50 rfl rfl) ?_
  refine aSims_c (i := 33) (s_aload_n hC dX5_name_51 rfl rfl) ?_
  refine aSims_c (i := 34) (s_get hC dX5_name_52 rfl rfl w_396 rfl rfl inB5 (by decide)) ?_
  refine aSims_c (i := 35) (s_iconst hC dX5_name_55 rfl rfl rfl) ?_
  refine aSims_c (i := 36) (s_aload_n hC dX5_name_56 rfl rfl) ?_
  refine aSims_c (i := 37) (s_get hC dX5_name_57 rfl rfl w_190 rfl rfl inB0 (by decide)) ?_
  refine aSims_c (i := 38) (s_iastore hC dX5_name_60 rfl rfl) ?_
  refine aSims_c (i := 39) (s_vret hC dX5_name_61 rfl hr hlk) ?_
  exact aSims_n
set_option maxHeartbeats 4000000 in
set_option maxRecDepth 20000 in
theorem sm_X5_learns (hC : aC p s m args c cX5_learns 5 RX5 D cA ad bs n0 H0 X) (hF : ∀ ml, ml ≤ 41 → aFit R d ml) (hRm : 16 ≤ R.frames ∧ 1000 ≤ R.locals) (hE : aCalls l D cA ad bs X d E) (hr : meth.sig.returnType = (some .int)) (hlk : meth.locks = false) : aSims (fun f i => aSim p l e R s m args below meth c (aEnd below s args D cA ad bs n0 z0 rv hf) 5 D cA ad bs n0 z0 H0 (apc pc_X5_learns) rv hf E f i) (cd_X5_learns) 0 := by
  unfold cd_X5_learns
  refine aSims_c (i := 0) (s_aload_n hC dX5_learns_0 rfl rfl) ?_
  refine aSims_c (i := 1) (s_aload_n hC dX5_learns_1 rfl rfl) ?_
  refine aSims_c (i := 2) (s_iload_n hC dX5_learns_2 rfl rfl) ?_
  refine aSims_c (i := 3) (s_iload_n hC dX5_learns_3 rfl rfl) ?_
  refine aSims_c (i := 4) (s_callV (n := 3) hC dX5_learns_4 rfl rfl (hE 55 _ _ _ _ rfl) (hF _ (by decide)) w_538 w_535 w_537 w_19 w_107 rfl (by decide +kernel)) ?_
  refine aSims_c (i := 5) (s_aload_n hC dX5_learns_7 rfl rfl) ?_
  refine aSims_c (i := 6) (s_get hC dX5_learns_8 rfl rfl w_394 rfl rfl inB5 (by decide)) ?_
  refine aSims_c (i := 7) (s_iconst hC dX5_learns_11 rfl rfl rfl) ?_
  refine aSims_c (i := 8) (s_aload_n hC dX5_learns_12 rfl rfl) ?_
  refine aSims_c (i := 9) (s_get hC dX5_learns_13 rfl rfl w_396 rfl rfl inB5 (by decide)) ?_
  refine aSims_c (i := 10) (s_callV (n := 2) hC dX5_learns_16 rfl rfl (hE 40 _ _ _ _ rfl) (hF _ (by decide)) w_542 w_539 w_540 w_541 w_98 rfl (by decide +kernel)) ?_
  refine aSims_c (i := 11) (s_iconst hC dX5_learns_19 rfl rfl rfl) ?_
  refine aSims_c (i := 12) (s_bipush hC dX5_learns_20 rfl rfl rfl) ?_
  refine aSims_c (i := 13) (s_callSN hC dX5_learns_22 rfl rfl (hE 109 _ _ _ _ rfl) (hF _ (by decide)) w_551 hC.2.2.2.2.2.2.2.2.1.1.2.1 w_550 w_96 (by decide +kernel)) ?_
  refine aSims_c (i := 14) (s_istore hC dX5_learns_25 rfl rfl) ?_
  refine aSims_c (i := 15) (s_aload_n hC dX5_learns_27 rfl rfl) ?_
  refine aSims_c (i := 16) (s_iload hC dX5_learns_28 rfl rfl) ?_
  refine aSims_c (i := 17) (s_iload_n hC dX5_learns_30 rfl rfl) ?_
  refine aSims_c (i := 18) (s_callV (n := 2) hC dX5_learns_31 rfl rfl (hE 6 _ _ _ _ rfl) (hF _ (by decide)) w_579 w_576 w_577 w_578 w_99 rfl (by decide +kernel)) ?_
  refine aSims_c (i := 19) (s_iconst hC dX5_learns_34 rfl rfl rfl) ?_
  refine aSims_c (i := 20) (s_bipush hC dX5_learns_35 rfl rfl rfl) ?_
  refine aSims_c (i := 21) (s_callSN hC dX5_learns_37 rfl rfl (hE 109 _ _ _ _ rfl) (hF _ (by decide)) w_551 hC.2.2.2.2.2.2.2.2.1.1.2.1 w_550 w_96 (by decide +kernel)) ?_
  refine aSims_c (i := 22) (s_iret hC dX5_learns_40 rfl hr hlk nar_qI) ?_
  exact aSims_n
end SIM
