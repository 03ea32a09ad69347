/-! each method's instructions are simulated (written by wip/whole/gen.py) -/
theorem dX7_image_0 : decode cX7_image 0 = .ok (.iconst 0, 1) := by decide +kernel
theorem dX7_image_1 : decode cX7_image 1 = .ok (.istore_n 1, 1) := by decide +kernel
theorem dX7_image_2 : decode cX7_image 2 = .ok (.iload_n 1, 1) := by decide +kernel
theorem dX7_image_3 : decode cX7_image 3 = .ok (.bipush 8, 2) := by decide +kernel
theorem dX7_image_5 : decode cX7_image 5 = .ok (.if_icmp .ge 21, 3) := by decide +kernel
theorem dX7_image_8 : decode cX7_image 8 = .ok (.aload_n 0, 1) := by decide +kernel
theorem dX7_image_9 : decode cX7_image 9 = .ok (.getfield 41, 3) := by decide +kernel
theorem dX7_image_12 : decode cX7_image 12 = .ok (.iload_n 1, 1) := by decide +kernel
theorem dX7_image_13 : decode cX7_image 13 = .ok (.aload_n 0, 1) := by decide +kernel
theorem dX7_image_14 : decode cX7_image 14 = .ok (.getfield 23, 3) := by decide +kernel
theorem dX7_image_17 : decode cX7_image 17 = .ok (.iload_n 1, 1) := by decide +kernel
theorem dX7_image_18 : decode cX7_image 18 = .ok (.iaload, 1) := by decide +kernel
theorem dX7_image_19 : decode cX7_image 19 = .ok (.iastore, 1) := by decide +kernel
theorem dX7_image_20 : decode cX7_image 20 = .ok (.iinc 1 1, 3) := by decide +kernel
theorem dX7_image_23 : decode cX7_image 23 = .ok (.goto (-21), 3) := by decide +kernel
theorem dX7_image_26 : decode cX7_image 26 = .ok (.iconst 0, 1) := by decide +kernel
theorem dX7_image_27 : decode cX7_image 27 = .ok (.istore_n 1, 1) := by decide +kernel
theorem dX7_image_28 : decode cX7_image 28 = .ok (.iload_n 1, 1) := by decide +kernel
theorem dX7_image_29 : decode cX7_image 29 = .ok (.iconst 5, 1) := by decide +kernel
theorem dX7_image_30 : decode cX7_image 30 = .ok (.if_icmp .ge 21, 3) := by decide +kernel
theorem dX7_image_33 : decode cX7_image 33 = .ok (.aload_n 0, 1) := by decide +kernel
theorem dX7_image_34 : decode cX7_image 34 = .ok (.getfield 44, 3) := by decide +kernel
theorem dX7_image_37 : decode cX7_image 37 = .ok (.iload_n 1, 1) := by decide +kernel
theorem dX7_image_38 : decode cX7_image 38 = .ok (.aload_n 0, 1) := by decide +kernel
theorem dX7_image_39 : decode cX7_image 39 = .ok (.getfield 29, 3) := by decide +kernel
theorem dX7_image_42 : decode cX7_image 42 = .ok (.iload_n 1, 1) := by decide +kernel
theorem dX7_image_43 : decode cX7_image 43 = .ok (.iaload, 1) := by decide +kernel
theorem dX7_image_44 : decode cX7_image 44 = .ok (.iastore, 1) := by decide +kernel
theorem dX7_image_45 : decode cX7_image 45 = .ok (.iinc 1 1, 3) := by decide +kernel
theorem dX7_image_48 : decode cX7_image 48 = .ok (.goto (-20), 3) := by decide +kernel
theorem dX7_image_51 : decode cX7_image 51 = .ok (.iconst 0, 1) := by decide +kernel
theorem dX7_image_52 : decode cX7_image 52 = .ok (.istore_n 1, 1) := by decide +kernel
theorem dX7_image_53 : decode cX7_image 53 = .ok (.iload_n 1, 1) := by decide +kernel
theorem dX7_image_54 : decode cX7_image 54 = .ok (.bipush 50, 2) := by decide +kernel
theorem dX7_image_56 : decode cX7_image 56 = .ok (.if_icmp .ge 21, 3) := by decide +kernel
theorem dX7_image_59 : decode cX7_image 59 = .ok (.aload_n 0, 1) := by decide +kernel
theorem dX7_image_60 : decode cX7_image 60 = .ok (.getfield 47, 3) := by decide +kernel
theorem dX7_image_63 : decode cX7_image 63 = .ok (.iload_n 1, 1) := by decide +kernel
theorem dX7_image_64 : decode cX7_image 64 = .ok (.aload_n 0, 1) := by decide +kernel
theorem dX7_image_65 : decode cX7_image 65 = .ok (.getfield 32, 3) := by decide +kernel
theorem dX7_image_68 : decode cX7_image 68 = .ok (.iload_n 1, 1) := by decide +kernel
theorem dX7_image_69 : decode cX7_image 69 = .ok (.iaload, 1) := by decide +kernel
theorem dX7_image_70 : decode cX7_image 70 = .ok (.iastore, 1) := by decide +kernel
theorem dX7_image_71 : decode cX7_image 71 = .ok (.iinc 1 1, 3) := by decide +kernel
theorem dX7_image_74 : decode cX7_image 74 = .ok (.goto (-21), 3) := by decide +kernel
theorem dX7_image_77 : decode cX7_image 77 = .ok (.aload_n 0, 1) := by decide +kernel
theorem dX7_image_78 : decode cX7_image 78 = .ok (.aload_n 0, 1) := by decide +kernel
theorem dX7_image_79 : decode cX7_image 79 = .ok (.getfield 73, 3) := by decide +kernel
theorem dX7_image_82 : decode cX7_image 82 = .ok (.putfield 50, 3) := by decide +kernel
theorem dX7_image_85 : decode cX7_image 85 = .ok (.aload_n 0, 1) := by decide +kernel
theorem dX7_image_86 : decode cX7_image 86 = .ok (.aload_n 0, 1) := by decide +kernel
theorem dX7_image_87 : decode cX7_image 87 = .ok (.getfield 111, 3) := by decide +kernel
theorem dX7_image_90 : decode cX7_image 90 = .ok (.putfield 422, 3) := by decide +kernel
theorem dX7_image_93 : decode cX7_image 93 = .ok (.aload_n 0, 1) := by decide +kernel
theorem dX7_image_94 : decode cX7_image 94 = .ok (.aload_n 0, 1) := by decide +kernel
theorem dX7_image_95 : decode cX7_image 95 = .ok (.getfield 117, 3) := by decide +kernel
theorem dX7_image_98 : decode cX7_image 98 = .ok (.putfield 425, 3) := by decide +kernel
theorem dX7_image_101 : decode cX7_image 101 = .ok (.aload_n 0, 1) := by decide +kernel
theorem dX7_image_102 : decode cX7_image 102 = .ok (.getfield 73, 3) := by decide +kernel
theorem dX7_image_105 : decode cX7_image 105 = .ok (.ireturn, 1) := by decide +kernel
theorem dX7_back_0 : decode cX7_back 0 = .ok (.aload_n 0, 1) := by decide +kernel
theorem dX7_back_1 : decode cX7_back 1 = .ok (.getfield 50, 3) := by decide +kernel
theorem dX7_back_4 : decode cX7_back 4 = .ok (.iconst (-1), 1) := by decide +kernel
theorem dX7_back_5 : decode cX7_back 5 = .ok (.if_icmp .ne 6, 3) := by decide +kernel
theorem dX7_back_8 : decode cX7_back 8 = .ok (.bipush (-3), 2) := by decide +kernel
theorem dX7_back_10 : decode cX7_back 10 = .ok (.ireturn, 1) := by decide +kernel
theorem dX7_back_11 : decode cX7_back 11 = .ok (.iconst 0, 1) := by decide +kernel
theorem dX7_back_12 : decode cX7_back 12 = .ok (.istore_n 1, 1) := by decide +kernel
theorem dX7_back_13 : decode cX7_back 13 = .ok (.iload_n 1, 1) := by decide +kernel
theorem dX7_back_14 : decode cX7_back 14 = .ok (.bipush 8, 2) := by decide +kernel
theorem dX7_back_16 : decode cX7_back 16 = .ok (.if_icmp .ge 21, 3) := by decide +kernel
theorem dX7_back_19 : decode cX7_back 19 = .ok (.aload_n 0, 1) := by decide +kernel
theorem dX7_back_20 : decode cX7_back 20 = .ok (.getfield 23, 3) := by decide +kernel
theorem dX7_back_23 : decode cX7_back 23 = .ok (.iload_n 1, 1) := by decide +kernel
theorem dX7_back_24 : decode cX7_back 24 = .ok (.aload_n 0, 1) := by decide +kernel
theorem dX7_back_25 : decode cX7_back 25 = .ok (.getfield 41, 3) := by decide +kernel
theorem dX7_back_28 : decode cX7_back 28 = .ok (.iload_n 1, 1) := by decide +kernel
theorem dX7_back_29 : decode cX7_back 29 = .ok (.iaload, 1) := by decide +kernel
theorem dX7_back_30 : decode cX7_back 30 = .ok (.iastore, 1) := by decide +kernel
theorem dX7_back_31 : decode cX7_back 31 = .ok (.iinc 1 1, 3) := by decide +kernel
theorem dX7_back_34 : decode cX7_back 34 = .ok (.goto (-21), 3) := by decide +kernel
theorem dX7_back_37 : decode cX7_back 37 = .ok (.iconst 0, 1) := by decide +kernel
theorem dX7_back_38 : decode cX7_back 38 = .ok (.istore_n 1, 1) := by decide +kernel
theorem dX7_back_39 : decode cX7_back 39 = .ok (.iload_n 1, 1) := by decide +kernel
theorem dX7_back_40 : decode cX7_back 40 = .ok (.iconst 5, 1) := by decide +kernel
theorem dX7_back_41 : decode cX7_back 41 = .ok (.if_icmp .ge 21, 3) := by decide +kernel
theorem dX7_back_44 : decode cX7_back 44 = .ok (.aload_n 0, 1) := by decide +kernel
theorem dX7_back_45 : decode cX7_back 45 = .ok (.getfield 29, 3) := by decide +kernel
theorem dX7_back_48 : decode cX7_back 48 = .ok (.iload_n 1, 1) := by decide +kernel
theorem dX7_back_49 : decode cX7_back 49 = .ok (.aload_n 0, 1) := by decide +kernel
theorem dX7_back_50 : decode cX7_back 50 = .ok (.getfield 44, 3) := by decide +kernel
theorem dX7_back_53 : decode cX7_back 53 = .ok (.iload_n 1, 1) := by decide +kernel
theorem dX7_back_54 : decode cX7_back 54 = .ok (.iaload, 1) := by decide +kernel
theorem dX7_back_55 : decode cX7_back 55 = .ok (.iastore, 1) := by decide +kernel
theorem dX7_back_56 : decode cX7_back 56 = .ok (.iinc 1 1, 3) := by decide +kernel
theorem dX7_back_59 : decode cX7_back 59 = .ok (.goto (-20), 3) := by decide +kernel
theorem dX7_back_62 : decode cX7_back 62 = .ok (.iconst 0, 1) := by decide +kernel
theorem dX7_back_63 : decode cX7_back 63 = .ok (.istore_n 1, 1) := by decide +kernel
theorem dX7_back_64 : decode cX7_back 64 = .ok (.iload_n 1, 1) := by decide +kernel
theorem dX7_back_65 : decode cX7_back 65 = .ok (.bipush 50, 2) := by decide +kernel
theorem dX7_back_67 : decode cX7_back 67 = .ok (.if_icmp .ge 21, 3) := by decide +kernel
theorem dX7_back_70 : decode cX7_back 70 = .ok (.aload_n 0, 1) := by decide +kernel
theorem dX7_back_71 : decode cX7_back 71 = .ok (.getfield 32, 3) := by decide +kernel
theorem dX7_back_74 : decode cX7_back 74 = .ok (.iload_n 1, 1) := by decide +kernel
theorem dX7_back_75 : decode cX7_back 75 = .ok (.aload_n 0, 1) := by decide +kernel
theorem dX7_back_76 : decode cX7_back 76 = .ok (.getfield 47, 3) := by decide +kernel
theorem dX7_back_79 : decode cX7_back 79 = .ok (.iload_n 1, 1) := by decide +kernel
theorem dX7_back_80 : decode cX7_back 80 = .ok (.iaload, 1) := by decide +kernel
theorem dX7_back_81 : decode cX7_back 81 = .ok (.iastore, 1) := by decide +kernel
theorem dX7_back_82 : decode cX7_back 82 = .ok (.iinc 1 1, 3) := by decide +kernel
theorem dX7_back_85 : decode cX7_back 85 = .ok (.goto (-21), 3) := by decide +kernel
theorem dX7_back_88 : decode cX7_back 88 = .ok (.aload_n 0, 1) := by decide +kernel
theorem dX7_back_89 : decode cX7_back 89 = .ok (.aload_n 0, 1) := by decide +kernel
theorem dX7_back_90 : decode cX7_back 90 = .ok (.getfield 50, 3) := by decide +kernel
theorem dX7_back_93 : decode cX7_back 93 = .ok (.putfield 73, 3) := by decide +kernel
theorem dX7_back_96 : decode cX7_back 96 = .ok (.aload_n 0, 1) := by decide +kernel
theorem dX7_back_97 : decode cX7_back 97 = .ok (.aload_n 0, 1) := by decide +kernel
theorem dX7_back_98 : decode cX7_back 98 = .ok (.getfield 422, 3) := by decide +kernel
theorem dX7_back_101 : decode cX7_back 101 = .ok (.putfield 111, 3) := by decide +kernel
theorem dX7_back_104 : decode cX7_back 104 = .ok (.aload_n 0, 1) := by decide +kernel
theorem dX7_back_105 : decode cX7_back 105 = .ok (.aload_n 0, 1) := by decide +kernel
theorem dX7_back_106 : decode cX7_back 106 = .ok (.getfield 425, 3) := by decide +kernel
theorem dX7_back_109 : decode cX7_back 109 = .ok (.putfield 117, 3) := by decide +kernel
theorem dX7_back_112 : decode cX7_back 112 = .ok (.aload_n 0, 1) := by decide +kernel
theorem dX7_back_113 : decode cX7_back 113 = .ok (.getfield 73, 3) := by decide +kernel
theorem dX7_back_116 : decode cX7_back 116 = .ok (.ireturn, 1) := by decide +kernel
theorem dX7_count_0 : decode cX7_count 0 = .ok (.iload_n 1, 1) := by decide +kernel
theorem dX7_count_1 : decode cX7_count 1 = .ok (.i2l, 1) := by decide +kernel
theorem dX7_count_2 : decode cX7_count 2 = .ok (.lconst 0, 1) := by decide +kernel
theorem dX7_count_3 : decode cX7_count 3 = .ok (.ldc2_w 428, 3) := by decide +kernel
theorem dX7_count_6 : decode cX7_count 6 = .ok (.invokestatic 76, 3) := by decide +kernel
theorem dX7_count_9 : decode cX7_count 9 = .ok (.ifCond .ne 6, 3) := by decide +kernel
theorem dX7_count_12 : decode cX7_count 12 = .ok (.bipush (-2), 2) := by decide +kernel
theorem dX7_count_14 : decode cX7_count 14 = .ok (.ireturn, 1) := by decide +kernel
theorem dX7_count_15 : decode cX7_count 15 = .ok (.iload_n 1, 1) := by decide +kernel
theorem dX7_count_16 : decode cX7_count 16 = .ok (.iconst 3, 1) := by decide +kernel
theorem dX7_count_17 : decode cX7_count 17 = .ok (.if_icmp .le 32, 3) := by decide +kernel
theorem dX7_count_20 : decode cX7_count 20 = .ok (.iload_n 1, 1) := by decide +kernel
theorem dX7_count_21 : decode cX7_count 21 = .ok (.iconst 4, 1) := by decide +kernel
theorem dX7_count_22 : decode cX7_count 22 = .ok (.if_icmp .ne 10, 3) := by decide +kernel
theorem dX7_count_25 : decode cX7_count 25 = .ok (.aload_n 0, 1) := by decide +kernel
theorem dX7_count_26 : decode cX7_count 26 = .ok (.getfield 70, 3) := by decide +kernel
theorem dX7_count_29 : decode cX7_count 29 = .ok (.goto 19, 3) := by decide +kernel
theorem dX7_count_32 : decode cX7_count 32 = .ok (.iload_n 1, 1) := by decide +kernel
theorem dX7_count_33 : decode cX7_count 33 = .ok (.iconst 5, 1) := by decide +kernel
theorem dX7_count_34 : decode cX7_count 34 = .ok (.if_icmp .ne 10, 3) := by decide +kernel
theorem dX7_count_37 : decode cX7_count 37 = .ok (.aload_n 0, 1) := by decide +kernel
theorem dX7_count_38 : decode cX7_count 38 = .ok (.getfield 136, 3) := by decide +kernel
theorem dX7_count_41 : decode cX7_count 41 = .ok (.goto 7, 3) := by decide +kernel
theorem dX7_count_44 : decode cX7_count 44 = .ok (.aload_n 0, 1) := by decide +kernel
theorem dX7_count_45 : decode cX7_count 45 = .ok (.getfield 117, 3) := by decide +kernel
theorem dX7_count_48 : decode cX7_count 48 = .ok (.ireturn, 1) := by decide +kernel
theorem dX7_count_49 : decode cX7_count 49 = .ok (.iconst 0, 1) := by decide +kernel
theorem dX7_count_50 : decode cX7_count 50 = .ok (.istore_n 2, 1) := by decide +kernel
theorem dX7_count_51 : decode cX7_count 51 = .ok (.iconst 0, 1) := by decide +kernel
theorem dX7_count_52 : decode cX7_count 52 = .ok (.istore_n 3, 1) := by decide +kernel
theorem dX7_count_53 : decode cX7_count 53 = .ok (.iload_n 3, 1) := by decide +kernel
theorem dX7_count_54 : decode cX7_count 54 = .ok (.aload_n 0, 1) := by decide +kernel
theorem dX7_count_55 : decode cX7_count 55 = .ok (.getfield 73, 3) := by decide +kernel
theorem dX7_count_58 : decode cX7_count 58 = .ok (.if_icmp .ge 23, 3) := by decide +kernel
theorem dX7_count_61 : decode cX7_count 61 = .ok (.iload_n 2, 1) := by decide +kernel
theorem dX7_count_62 : decode cX7_count 62 = .ok (.aload_n 0, 1) := by decide +kernel
theorem dX7_count_63 : decode cX7_count 63 = .ok (.getfield 32, 3) := by decide +kernel
theorem dX7_count_66 : decode cX7_count 66 = .ok (.iload_n 3, 1) := by decide +kernel
theorem dX7_count_67 : decode cX7_count 67 = .ok (.bipush 9, 2) := by decide +kernel
theorem dX7_count_69 : decode cX7_count 69 = .ok (.invokestatic 114, 3) := by decide +kernel
theorem dX7_count_72 : decode cX7_count 72 = .ok (.iaload, 1) := by decide +kernel
theorem dX7_count_73 : decode cX7_count 73 = .ok (.iadd, 1) := by decide +kernel
theorem dX7_count_74 : decode cX7_count 74 = .ok (.istore_n 2, 1) := by decide +kernel
theorem dX7_count_75 : decode cX7_count 75 = .ok (.iinc 3 1, 3) := by decide +kernel
theorem dX7_count_78 : decode cX7_count 78 = .ok (.goto (-25), 3) := by decide +kernel
theorem dX7_count_81 : decode cX7_count 81 = .ok (.iload_n 1, 1) := by decide +kernel
theorem dX7_count_82 : decode cX7_count 82 = .ok (.ifCond .ne 10, 3) := by decide +kernel
theorem dX7_count_85 : decode cX7_count 85 = .ok (.aload_n 0, 1) := by decide +kernel
theorem dX7_count_86 : decode cX7_count 86 = .ok (.getfield 73, 3) := by decide +kernel
theorem dX7_count_89 : decode cX7_count 89 = .ok (.goto 28, 3) := by decide +kernel
theorem dX7_count_92 : decode cX7_count 92 = .ok (.iload_n 1, 1) := by decide +kernel
theorem dX7_count_93 : decode cX7_count 93 = .ok (.iconst 1, 1) := by decide +kernel
theorem dX7_count_94 : decode cX7_count 94 = .ok (.if_icmp .ne 10, 3) := by decide +kernel
theorem dX7_count_97 : decode cX7_count 97 = .ok (.aload_n 0, 1) := by decide +kernel
theorem dX7_count_98 : decode cX7_count 98 = .ok (.getfield 111, 3) := by decide +kernel
theorem dX7_count_101 : decode cX7_count 101 = .ok (.goto 16, 3) := by decide +kernel
theorem dX7_count_104 : decode cX7_count 104 = .ok (.iload_n 1, 1) := by decide +kernel
theorem dX7_count_105 : decode cX7_count 105 = .ok (.iconst 2, 1) := by decide +kernel
theorem dX7_count_106 : decode cX7_count 106 = .ok (.if_icmp .ne 10, 3) := by decide +kernel
theorem dX7_count_109 : decode cX7_count 109 = .ok (.aload_n 0, 1) := by decide +kernel
theorem dX7_count_110 : decode cX7_count 110 = .ok (.invokevirtual 369, 3) := by decide +kernel
theorem dX7_count_113 : decode cX7_count 113 = .ok (.goto 4, 3) := by decide +kernel
theorem dX7_count_116 : decode cX7_count 116 = .ok (.iload_n 2, 1) := by decide +kernel
theorem dX7_count_117 : decode cX7_count 117 = .ok (.ireturn, 1) := by decide +kernel
theorem dX7_isSheet_0 : decode cX7_isSheet 0 = .ok (.iload_n 0, 1) := by decide +kernel
theorem dX7_isSheet_1 : decode cX7_isSheet 1 = .ok (.i2l, 1) := by decide +kernel
theorem dX7_isSheet_2 : decode cX7_isSheet 2 = .ok (.lconst 0, 1) := by decide +kernel
theorem dX7_isSheet_3 : decode cX7_isSheet 3 = .ok (.ldc2_w 384, 3) := by decide +kernel
theorem dX7_isSheet_6 : decode cX7_isSheet 6 = .ok (.invokestatic 76, 3) := by decide +kernel
theorem dX7_isSheet_9 : decode cX7_isSheet 9 = .ok (.ireturn, 1) := by decide +kernel
theorem dX7_sheet_0 : decode cX7_sheet 0 = .ok (.iload_n 1, 1) := by decide +kernel
theorem dX7_sheet_1 : decode cX7_sheet 1 = .ok (.invokestatic 404, 3) := by decide +kernel
theorem dX7_sheet_4 : decode cX7_sheet 4 = .ok (.ifCond .eq 27, 3) := by decide +kernel
theorem dX7_sheet_7 : decode cX7_sheet 7 = .ok (.iload_n 2, 1) := by decide +kernel
theorem dX7_sheet_8 : decode cX7_sheet 8 = .ok (.i2l, 1) := by decide +kernel
theorem dX7_sheet_9 : decode cX7_sheet 9 = .ok (.ldc2_w 430, 3) := by decide +kernel
theorem dX7_sheet_12 : decode cX7_sheet 12 = .ok (.ldc2_w 360, 3) := by decide +kernel
theorem dX7_sheet_15 : decode cX7_sheet 15 = .ok (.invokestatic 76, 3) := by decide +kernel
theorem dX7_sheet_18 : decode cX7_sheet 18 = .ok (.ifCond .eq 13, 3) := by decide +kernel
theorem dX7_sheet_21 : decode cX7_sheet 21 = .ok (.iload_n 2, 1) := by decide +kernel
theorem dX7_sheet_22 : decode cX7_sheet 22 = .ok (.ifCond .lt 12, 3) := by decide +kernel
theorem dX7_sheet_25 : decode cX7_sheet 25 = .ok (.iload_n 3, 1) := by decide +kernel
theorem dX7_sheet_26 : decode cX7_sheet 26 = .ok (.bipush 40, 2) := by decide +kernel
theorem dX7_sheet_28 : decode cX7_sheet 28 = .ok (.if_icmp .le 6, 3) := by decide +kernel
theorem dX7_sheet_31 : decode cX7_sheet 31 = .ok (.bipush (-2), 2) := by decide +kernel
theorem dX7_sheet_33 : decode cX7_sheet 33 = .ok (.ireturn, 1) := by decide +kernel
theorem dX7_sheet_34 : decode cX7_sheet 34 = .ok (.iload_n 2, 1) := by decide +kernel
theorem dX7_sheet_35 : decode cX7_sheet 35 = .ok (.ifCond .lt 10, 3) := by decide +kernel
theorem dX7_sheet_38 : decode cX7_sheet 38 = .ok (.iload_n 3, 1) := by decide +kernel
theorem dX7_sheet_39 : decode cX7_sheet 39 = .ok (.ifCond .ge 6, 3) := by decide +kernel
theorem dX7_sheet_42 : decode cX7_sheet 42 = .ok (.bipush (-14), 2) := by decide +kernel
theorem dX7_sheet_44 : decode cX7_sheet 44 = .ok (.ireturn, 1) := by decide +kernel
theorem dX7_sheet_45 : decode cX7_sheet 45 = .ok (.aload_n 0, 1) := by decide +kernel
theorem dX7_sheet_46 : decode cX7_sheet 46 = .ok (.getfield 53, 3) := by decide +kernel
theorem dX7_sheet_49 : decode cX7_sheet 49 = .ok (.iload_n 1, 1) := by decide +kernel
theorem dX7_sheet_50 : decode cX7_sheet 50 = .ok (.iload_n 2, 1) := by decide +kernel
theorem dX7_sheet_51 : decode cX7_sheet 51 = .ok (.ifCond .lt 7, 3) := by decide +kernel
theorem dX7_sheet_54 : decode cX7_sheet 54 = .ok (.iconst 1, 1) := by decide +kernel
theorem dX7_sheet_55 : decode cX7_sheet 55 = .ok (.goto 4, 3) := by decide +kernel
theorem dX7_sheet_58 : decode cX7_sheet 58 = .ok (.iconst 0, 1) := by decide +kernel
theorem dX7_sheet_59 : decode cX7_sheet 59 = .ok (.bastore, 1) := by decide +kernel
theorem dX7_sheet_60 : decode cX7_sheet 60 = .ok (.aload_n 0, 1) := by decide +kernel
theorem dX7_sheet_61 : decode cX7_sheet 61 = .ok (.getfield 57, 3) := by decide +kernel
theorem dX7_sheet_64 : decode cX7_sheet 64 = .ok (.iload_n 1, 1) := by decide +kernel
theorem dX7_sheet_65 : decode cX7_sheet 65 = .ok (.iload_n 2, 1) := by decide +kernel
theorem dX7_sheet_66 : decode cX7_sheet 66 = .ok (.iastore, 1) := by decide +kernel
theorem dX7_sheet_67 : decode cX7_sheet 67 = .ok (.aload_n 0, 1) := by decide +kernel
theorem dX7_sheet_68 : decode cX7_sheet 68 = .ok (.getfield 60, 3) := by decide +kernel
theorem dX7_sheet_71 : decode cX7_sheet 71 = .ok (.iload_n 1, 1) := by decide +kernel
theorem dX7_sheet_72 : decode cX7_sheet 72 = .ok (.iload_n 3, 1) := by decide +kernel
theorem dX7_sheet_73 : decode cX7_sheet 73 = .ok (.iastore, 1) := by decide +kernel
theorem dX7_sheet_74 : decode cX7_sheet 74 = .ok (.iconst 0, 1) := by decide +kernel
theorem dX7_sheet_75 : decode cX7_sheet 75 = .ok (.istore 4, 2) := by decide +kernel
theorem dX7_sheet_77 : decode cX7_sheet 77 = .ok (.iload 4, 2) := by decide +kernel
theorem dX7_sheet_79 : decode cX7_sheet 79 = .ok (.iload_n 3, 1) := by decide +kernel
theorem dX7_sheet_80 : decode cX7_sheet 80 = .ok (.if_icmp .ge 26, 3) := by decide +kernel
theorem dX7_sheet_83 : decode cX7_sheet 83 = .ok (.iload_n 2, 1) := by decide +kernel
theorem dX7_sheet_84 : decode cX7_sheet 84 = .ok (.ifCond .lt 22, 3) := by decide +kernel
theorem dX7_sheet_87 : decode cX7_sheet 87 = .ok (.aload_n 0, 1) := by decide +kernel
theorem dX7_sheet_88 : decode cX7_sheet 88 = .ok (.getfield 63, 3) := by decide +kernel
theorem dX7_sheet_91 : decode cX7_sheet 91 = .ok (.bipush 40, 2) := by decide +kernel
theorem dX7_sheet_93 : decode cX7_sheet 93 = .ok (.iload_n 1, 1) := by decide +kernel
theorem dX7_sheet_94 : decode cX7_sheet 94 = .ok (.imul, 1) := by decide +kernel
theorem dX7_sheet_95 : decode cX7_sheet 95 = .ok (.iload 4, 2) := by decide +kernel
theorem dX7_sheet_97 : decode cX7_sheet 97 = .ok (.iadd, 1) := by decide +kernel
theorem dX7_sheet_98 : decode cX7_sheet 98 = .ok (.iconst 0, 1) := by decide +kernel
theorem dX7_sheet_99 : decode cX7_sheet 99 = .ok (.iastore, 1) := by decide +kernel
theorem dX7_sheet_100 : decode cX7_sheet 100 = .ok (.iinc 4 1, 3) := by decide +kernel
theorem dX7_sheet_103 : decode cX7_sheet 103 = .ok (.goto (-26), 3) := by decide +kernel
theorem dX7_sheet_106 : decode cX7_sheet 106 = .ok (.iconst 1, 1) := by decide +kernel
theorem dX7_sheet_107 : decode cX7_sheet 107 = .ok (.ireturn, 1) := by decide +kernel
theorem dX7_cell_0 : decode cX7_cell 0 = .ok (.iload_n 1, 1) := by decide +kernel
theorem dX7_cell_1 : decode cX7_cell 1 = .ok (.invokestatic 404, 3) := by decide +kernel
theorem dX7_cell_4 : decode cX7_cell 4 = .ok (.ifCond .ne 6, 3) := by decide +kernel
theorem dX7_cell_7 : decode cX7_cell 7 = .ok (.bipush (-2), 2) := by decide +kernel
theorem dX7_cell_9 : decode cX7_cell 9 = .ok (.ireturn, 1) := by decide +kernel
theorem dX7_cell_10 : decode cX7_cell 10 = .ok (.aload_n 0, 1) := by decide +kernel
theorem dX7_cell_11 : decode cX7_cell 11 = .ok (.getfield 53, 3) := by decide +kernel
theorem dX7_cell_14 : decode cX7_cell 14 = .ok (.iload_n 1, 1) := by decide +kernel
theorem dX7_cell_15 : decode cX7_cell 15 = .ok (.baload, 1) := by decide +kernel
theorem dX7_cell_16 : decode cX7_cell 16 = .ok (.ifCond .ne 6, 3) := by decide +kernel
theorem dX7_cell_19 : decode cX7_cell 19 = .ok (.bipush (-11), 2) := by decide +kernel
theorem dX7_cell_21 : decode cX7_cell 21 = .ok (.ireturn, 1) := by decide +kernel
theorem dX7_cell_22 : decode cX7_cell 22 = .ok (.iload_n 2, 1) := by decide +kernel
theorem dX7_cell_23 : decode cX7_cell 23 = .ok (.i2l, 1) := by decide +kernel
theorem dX7_cell_24 : decode cX7_cell 24 = .ok (.lconst 0, 1) := by decide +kernel
theorem dX7_cell_25 : decode cX7_cell 25 = .ok (.aload_n 0, 1) := by decide +kernel
theorem dX7_cell_26 : decode cX7_cell 26 = .ok (.getfield 60, 3) := by decide +kernel
theorem dX7_cell_29 : decode cX7_cell 29 = .ok (.iload_n 1, 1) := by decide +kernel
theorem dX7_cell_30 : decode cX7_cell 30 = .ok (.iaload, 1) := by decide +kernel
theorem dX7_cell_31 : decode cX7_cell 31 = .ok (.iconst 1, 1) := by decide +kernel
theorem dX7_cell_32 : decode cX7_cell 32 = .ok (.isub, 1) := by decide +kernel
theorem dX7_cell_33 : decode cX7_cell 33 = .ok (.i2l, 1) := by decide +kernel
theorem dX7_cell_34 : decode cX7_cell 34 = .ok (.invokestatic 76, 3) := by decide +kernel
theorem dX7_cell_37 : decode cX7_cell 37 = .ok (.ifCond .ne 6, 3) := by decide +kernel
theorem dX7_cell_40 : decode cX7_cell 40 = .ok (.bipush (-12), 2) := by decide +kernel
theorem dX7_cell_42 : decode cX7_cell 42 = .ok (.ireturn, 1) := by decide +kernel
theorem dX7_cell_43 : decode cX7_cell 43 = .ok (.aload_n 0, 1) := by decide +kernel
theorem dX7_cell_44 : decode cX7_cell 44 = .ok (.getfield 63, 3) := by decide +kernel
theorem dX7_cell_47 : decode cX7_cell 47 = .ok (.bipush 40, 2) := by decide +kernel
theorem dX7_cell_49 : decode cX7_cell 49 = .ok (.iload_n 1, 1) := by decide +kernel
theorem dX7_cell_50 : decode cX7_cell 50 = .ok (.imul, 1) := by decide +kernel
theorem dX7_cell_51 : decode cX7_cell 51 = .ok (.iload_n 2, 1) := by decide +kernel
theorem dX7_cell_52 : decode cX7_cell 52 = .ok (.iadd, 1) := by decide +kernel
theorem dX7_cell_53 : decode cX7_cell 53 = .ok (.aload_n 0, 1) := by decide +kernel
theorem dX7_cell_54 : decode cX7_cell 54 = .ok (.getfield 57, 3) := by decide +kernel
theorem dX7_cell_57 : decode cX7_cell 57 = .ok (.iload_n 1, 1) := by decide +kernel
theorem dX7_cell_58 : decode cX7_cell 58 = .ok (.iaload, 1) := by decide +kernel
theorem dX7_cell_59 : decode cX7_cell 59 = .ok (.ifCond .ne 8, 3) := by decide +kernel
theorem dX7_cell_62 : decode cX7_cell 62 = .ok (.iload_n 3, 1) := by decide +kernel
theorem dX7_cell_63 : decode cX7_cell 63 = .ok (.i2b, 1) := by decide +kernel
theorem dX7_cell_64 : decode cX7_cell 64 = .ok (.goto 19, 3) := by decide +kernel
theorem dX7_cell_67 : decode cX7_cell 67 = .ok (.aload_n 0, 1) := by decide +kernel
theorem dX7_cell_68 : decode cX7_cell 68 = .ok (.getfield 57, 3) := by decide +kernel
theorem dX7_cell_71 : decode cX7_cell 71 = .ok (.iload_n 1, 1) := by decide +kernel
theorem dX7_cell_72 : decode cX7_cell 72 = .ok (.iaload, 1) := by decide +kernel
theorem dX7_cell_73 : decode cX7_cell 73 = .ok (.iconst 1, 1) := by decide +kernel
theorem dX7_cell_74 : decode cX7_cell 74 = .ok (.if_icmp .ne 8, 3) := by decide +kernel
theorem dX7_cell_77 : decode cX7_cell 77 = .ok (.iload_n 3, 1) := by decide +kernel
theorem dX7_cell_78 : decode cX7_cell 78 = .ok (.i2s, 1) := by decide +kernel
theorem dX7_cell_79 : decode cX7_cell 79 = .ok (.goto 4, 3) := by decide +kernel
theorem dX7_cell_82 : decode cX7_cell 82 = .ok (.iload_n 3, 1) := by decide +kernel
theorem dX7_cell_83 : decode cX7_cell 83 = .ok (.iastore, 1) := by decide +kernel
theorem dX7_cell_84 : decode cX7_cell 84 = .ok (.iconst 1, 1) := by decide +kernel
theorem dX7_cell_85 : decode cX7_cell 85 = .ok (.ireturn, 1) := by decide +kernel
theorem dX7_copy_0 : decode cX7_copy 0 = .ok (.iload_n 1, 1) := by decide +kernel
theorem dX7_copy_1 : decode cX7_copy 1 = .ok (.invokestatic 404, 3) := by decide +kernel
theorem dX7_copy_4 : decode cX7_copy 4 = .ok (.ifCond .eq 10, 3) := by decide +kernel
theorem dX7_copy_7 : decode cX7_copy 7 = .ok (.iload_n 3, 1) := by decide +kernel
theorem dX7_copy_8 : decode cX7_copy 8 = .ok (.invokestatic 404, 3) := by decide +kernel
theorem dX7_copy_11 : decode cX7_copy 11 = .ok (.ifCond .ne 6, 3) := by decide +kernel
theorem dX7_copy_14 : decode cX7_copy 14 = .ok (.bipush (-2), 2) := by decide +kernel
theorem dX7_copy_16 : decode cX7_copy 16 = .ok (.ireturn, 1) := by decide +kernel
theorem dX7_copy_17 : decode cX7_copy 17 = .ok (.aload_n 0, 1) := by decide +kernel
theorem dX7_copy_18 : decode cX7_copy 18 = .ok (.getfield 53, 3) := by decide +kernel
theorem dX7_copy_21 : decode cX7_copy 21 = .ok (.iload_n 1, 1) := by decide +kernel
theorem dX7_copy_22 : decode cX7_copy 22 = .ok (.baload, 1) := by decide +kernel
theorem dX7_copy_23 : decode cX7_copy 23 = .ok (.ifCond .eq 12, 3) := by decide +kernel
theorem dX7_copy_26 : decode cX7_copy 26 = .ok (.aload_n 0, 1) := by decide +kernel
theorem dX7_copy_27 : decode cX7_copy 27 = .ok (.getfield 53, 3) := by decide +kernel
theorem dX7_copy_30 : decode cX7_copy 30 = .ok (.iload_n 3, 1) := by decide +kernel
theorem dX7_copy_31 : decode cX7_copy 31 = .ok (.baload, 1) := by decide +kernel
theorem dX7_copy_32 : decode cX7_copy 32 = .ok (.ifCond .ne 6, 3) := by decide +kernel
theorem dX7_copy_35 : decode cX7_copy 35 = .ok (.bipush (-11), 2) := by decide +kernel
theorem dX7_copy_37 : decode cX7_copy 37 = .ok (.ireturn, 1) := by decide +kernel
theorem dX7_copy_38 : decode cX7_copy 38 = .ok (.aload_n 0, 1) := by decide +kernel
theorem dX7_copy_39 : decode cX7_copy 39 = .ok (.getfield 57, 3) := by decide +kernel
theorem dX7_copy_42 : decode cX7_copy 42 = .ok (.iload_n 1, 1) := by decide +kernel
theorem dX7_copy_43 : decode cX7_copy 43 = .ok (.iaload, 1) := by decide +kernel
theorem dX7_copy_44 : decode cX7_copy 44 = .ok (.aload_n 0, 1) := by decide +kernel
theorem dX7_copy_45 : decode cX7_copy 45 = .ok (.getfield 57, 3) := by decide +kernel
theorem dX7_copy_48 : decode cX7_copy 48 = .ok (.iload_n 3, 1) := by decide +kernel
theorem dX7_copy_49 : decode cX7_copy 49 = .ok (.iaload, 1) := by decide +kernel
theorem dX7_copy_50 : decode cX7_copy 50 = .ok (.if_icmp .eq 6, 3) := by decide +kernel
theorem dX7_copy_53 : decode cX7_copy 53 = .ok (.bipush (-13), 2) := by decide +kernel
theorem dX7_copy_55 : decode cX7_copy 55 = .ok (.ireturn, 1) := by decide +kernel
theorem dX7_copy_56 : decode cX7_copy 56 = .ok (.iload 5, 2) := by decide +kernel
theorem dX7_copy_58 : decode cX7_copy 58 = .ok (.ifCond .lt 39, 3) := by decide +kernel
theorem dX7_copy_61 : decode cX7_copy 61 = .ok (.iload_n 2, 1) := by decide +kernel
theorem dX7_copy_62 : decode cX7_copy 62 = .ok (.ifCond .lt 35, 3) := by decide +kernel
theorem dX7_copy_65 : decode cX7_copy 65 = .ok (.iload 4, 2) := by decide +kernel
theorem dX7_copy_67 : decode cX7_copy 67 = .ok (.ifCond .lt 30, 3) := by decide +kernel
theorem dX7_copy_70 : decode cX7_copy 70 = .ok (.iload_n 2, 1) := by decide +kernel
theorem dX7_copy_71 : decode cX7_copy 71 = .ok (.aload_n 0, 1) := by decide +kernel
theorem dX7_copy_72 : decode cX7_copy 72 = .ok (.getfield 60, 3) := by decide +kernel
theorem dX7_copy_75 : decode cX7_copy 75 = .ok (.iload_n 1, 1) := by decide +kernel
theorem dX7_copy_76 : decode cX7_copy 76 = .ok (.iaload, 1) := by decide +kernel
theorem dX7_copy_77 : decode cX7_copy 77 = .ok (.iload 5, 2) := by decide +kernel
theorem dX7_copy_79 : decode cX7_copy 79 = .ok (.isub, 1) := by decide +kernel
theorem dX7_copy_80 : decode cX7_copy 80 = .ok (.if_icmp .gt 17, 3) := by decide +kernel
theorem dX7_copy_83 : decode cX7_copy 83 = .ok (.iload 4, 2) := by decide +kernel
theorem dX7_copy_85 : decode cX7_copy 85 = .ok (.aload_n 0, 1) := by decide +kernel
theorem dX7_copy_86 : decode cX7_copy 86 = .ok (.getfield 60, 3) := by decide +kernel
theorem dX7_copy_89 : decode cX7_copy 89 = .ok (.iload_n 3, 1) := by decide +kernel
theorem dX7_copy_90 : decode cX7_copy 90 = .ok (.iaload, 1) := by decide +kernel
theorem dX7_copy_91 : decode cX7_copy 91 = .ok (.iload 5, 2) := by decide +kernel
theorem dX7_copy_93 : decode cX7_copy 93 = .ok (.isub, 1) := by decide +kernel
theorem dX7_copy_94 : decode cX7_copy 94 = .ok (.if_icmp .le 6, 3) := by decide +kernel
theorem dX7_copy_97 : decode cX7_copy 97 = .ok (.bipush (-12), 2) := by decide +kernel
theorem dX7_copy_99 : decode cX7_copy 99 = .ok (.ireturn, 1) := by decide +kernel
theorem dX7_copy_100 : decode cX7_copy 100 = .ok (.iload_n 1, 1) := by decide +kernel
theorem dX7_copy_101 : decode cX7_copy 101 = .ok (.iload_n 3, 1) := by decide +kernel
theorem dX7_copy_102 : decode cX7_copy 102 = .ok (.if_icmp .ne 13, 3) := by decide +kernel
theorem dX7_copy_105 : decode cX7_copy 105 = .ok (.iload_n 2, 1) := by decide +kernel
theorem dX7_copy_106 : decode cX7_copy 106 = .ok (.iload 4, 2) := by decide +kernel
theorem dX7_copy_108 : decode cX7_copy 108 = .ok (.if_icmp .ge 7, 3) := by decide +kernel
theorem dX7_copy_111 : decode cX7_copy 111 = .ok (.iconst 1, 1) := by decide +kernel
theorem dX7_copy_112 : decode cX7_copy 112 = .ok (.goto 4, 3) := by decide +kernel
theorem dX7_copy_115 : decode cX7_copy 115 = .ok (.iconst 0, 1) := by decide +kernel
theorem dX7_copy_116 : decode cX7_copy 116 = .ok (.istore 6, 2) := by decide +kernel
theorem dX7_copy_118 : decode cX7_copy 118 = .ok (.iconst 0, 1) := by decide +kernel
theorem dX7_copy_119 : decode cX7_copy 119 = .ok (.istore 7, 2) := by decide +kernel
theorem dX7_copy_121 : decode cX7_copy 121 = .ok (.iload 7, 2) := by decide +kernel
theorem dX7_copy_123 : decode cX7_copy 123 = .ok (.iload 5, 2) := by decide +kernel
theorem dX7_copy_125 : decode cX7_copy 125 = .ok (.if_icmp .ge 57, 3) := by decide +kernel
theorem dX7_copy_128 : decode cX7_copy 128 = .ok (.iload 6, 2) := by decide +kernel
theorem dX7_copy_130 : decode cX7_copy 130 = .ok (.ifCond .eq 13, 3) := by decide +kernel
theorem dX7_copy_133 : decode cX7_copy 133 = .ok (.iload 5, 2) := by decide +kernel
theorem dX7_copy_135 : decode cX7_copy 135 = .ok (.iconst 1, 1) := by decide +kernel
theorem dX7_copy_136 : decode cX7_copy 136 = .ok (.isub, 1) := by decide +kernel
theorem dX7_copy_137 : decode cX7_copy 137 = .ok (.iload 7, 2) := by decide +kernel
theorem dX7_copy_139 : decode cX7_copy 139 = .ok (.isub, 1) := by decide +kernel
theorem dX7_copy_140 : decode cX7_copy 140 = .ok (.goto 5, 3) := by decide +kernel
theorem dX7_copy_143 : decode cX7_copy 143 = .ok (.iload 7, 2) := by decide +kernel
theorem dX7_copy_145 : decode cX7_copy 145 = .ok (.istore 8, 2) := by decide +kernel
theorem dX7_copy_147 : decode cX7_copy 147 = .ok (.aload_n 0, 1) := by decide +kernel
theorem dX7_copy_148 : decode cX7_copy 148 = .ok (.getfield 63, 3) := by decide +kernel
theorem dX7_copy_151 : decode cX7_copy 151 = .ok (.bipush 40, 2) := by decide +kernel
theorem dX7_copy_153 : decode cX7_copy 153 = .ok (.iload_n 3, 1) := by decide +kernel
theorem dX7_copy_154 : decode cX7_copy 154 = .ok (.imul, 1) := by decide +kernel
theorem dX7_copy_155 : decode cX7_copy 155 = .ok (.iload 4, 2) := by decide +kernel
theorem dX7_copy_157 : decode cX7_copy 157 = .ok (.iadd, 1) := by decide +kernel
theorem dX7_copy_158 : decode cX7_copy 158 = .ok (.iload 8, 2) := by decide +kernel
theorem dX7_copy_160 : decode cX7_copy 160 = .ok (.iadd, 1) := by decide +kernel
theorem dX7_copy_161 : decode cX7_copy 161 = .ok (.aload_n 0, 1) := by decide +kernel
theorem dX7_copy_162 : decode cX7_copy 162 = .ok (.getfield 63, 3) := by decide +kernel
theorem dX7_copy_165 : decode cX7_copy 165 = .ok (.bipush 40, 2) := by decide +kernel
theorem dX7_copy_167 : decode cX7_copy 167 = .ok (.iload_n 1, 1) := by decide +kernel
theorem dX7_copy_168 : decode cX7_copy 168 = .ok (.imul, 1) := by decide +kernel
theorem dX7_copy_169 : decode cX7_copy 169 = .ok (.iload_n 2, 1) := by decide +kernel
theorem dX7_copy_170 : decode cX7_copy 170 = .ok (.iadd, 1) := by decide +kernel
theorem dX7_copy_171 : decode cX7_copy 171 = .ok (.iload 8, 2) := by decide +kernel
theorem dX7_copy_173 : decode cX7_copy 173 = .ok (.iadd, 1) := by decide +kernel
theorem dX7_copy_174 : decode cX7_copy 174 = .ok (.iaload, 1) := by decide +kernel
theorem dX7_copy_175 : decode cX7_copy 175 = .ok (.iastore, 1) := by decide +kernel
theorem dX7_copy_176 : decode cX7_copy 176 = .ok (.iinc 7 1, 3) := by decide +kernel
theorem dX7_copy_179 : decode cX7_copy 179 = .ok (.goto (-58), 3) := by decide +kernel
theorem dX7_copy_182 : decode cX7_copy 182 = .ok (.iload 5, 2) := by decide +kernel
theorem dX7_copy_184 : decode cX7_copy 184 = .ok (.ireturn, 1) := by decide +kernel
theorem dX7_learners_0 : decode cX7_learners 0 = .ok (.iload_n 1, 1) := by decide +kernel
theorem dX7_learners_1 : decode cX7_learners 1 = .ok (.invokestatic 404, 3) := by decide +kernel
theorem dX7_learners_4 : decode cX7_learners 4 = .ok (.ifCond .eq 28, 3) := by decide +kernel
theorem dX7_learners_7 : decode cX7_learners 7 = .ok (.iload_n 2, 1) := by decide +kernel
theorem dX7_learners_8 : decode cX7_learners 8 = .ok (.i2l, 1) := by decide +kernel
theorem dX7_learners_9 : decode cX7_learners 9 = .ok (.lconst 0, 1) := by decide +kernel
theorem dX7_learners_10 : decode cX7_learners 10 = .ok (.ldc2_w 360, 3) := by decide +kernel
theorem dX7_learners_13 : decode cX7_learners 13 = .ok (.invokestatic 76, 3) := by decide +kernel
theorem dX7_learners_16 : decode cX7_learners 16 = .ok (.ifCond .eq 16, 3) := by decide +kernel
theorem dX7_learners_19 : decode cX7_learners 19 = .ok (.iload 4, 2) := by decide +kernel
theorem dX7_learners_21 : decode cX7_learners 21 = .ok (.i2l, 1) := by decide +kernel
theorem dX7_learners_22 : decode cX7_learners 22 = .ok (.lconst 0, 1) := by decide +kernel
theorem dX7_learners_23 : decode cX7_learners 23 = .ok (.ldc2_w 120, 3) := by decide +kernel
theorem dX7_learners_26 : decode cX7_learners 26 = .ok (.invokestatic 76, 3) := by decide +kernel
theorem dX7_learners_29 : decode cX7_learners 29 = .ok (.ifCond .ne 6, 3) := by decide +kernel
theorem dX7_learners_32 : decode cX7_learners 32 = .ok (.bipush (-2), 2) := by decide +kernel
theorem dX7_learners_34 : decode cX7_learners 34 = .ok (.ireturn, 1) := by decide +kernel
theorem dX7_learners_35 : decode cX7_learners 35 = .ok (.aload_n 0, 1) := by decide +kernel
theorem dX7_learners_36 : decode cX7_learners 36 = .ok (.getfield 53, 3) := by decide +kernel
theorem dX7_learners_39 : decode cX7_learners 39 = .ok (.iload_n 1, 1) := by decide +kernel
theorem dX7_learners_40 : decode cX7_learners 40 = .ok (.baload, 1) := by decide +kernel
theorem dX7_learners_41 : decode cX7_learners 41 = .ok (.ifCond .eq 16, 3) := by decide +kernel
theorem dX7_learners_44 : decode cX7_learners 44 = .ok (.aload_n 0, 1) := by decide +kernel
theorem dX7_learners_45 : decode cX7_learners 45 = .ok (.getfield 57, 3) := by decide +kernel
theorem dX7_learners_48 : decode cX7_learners 48 = .ok (.iload_n 1, 1) := by decide +kernel
theorem dX7_learners_49 : decode cX7_learners 49 = .ok (.iaload, 1) := by decide +kernel
theorem dX7_learners_50 : decode cX7_learners 50 = .ok (.iload_n 2, 1) := by decide +kernel
theorem dX7_learners_51 : decode cX7_learners 51 = .ok (.if_icmp .eq 6, 3) := by decide +kernel
theorem dX7_learners_54 : decode cX7_learners 54 = .ok (.bipush (-13), 2) := by decide +kernel
theorem dX7_learners_56 : decode cX7_learners 56 = .ok (.ireturn, 1) := by decide +kernel
theorem dX7_learners_57 : decode cX7_learners 57 = .ok (.aload_n 0, 1) := by decide +kernel
theorem dX7_learners_58 : decode cX7_learners 58 = .ok (.getfield 53, 3) := by decide +kernel
theorem dX7_learners_61 : decode cX7_learners 61 = .ok (.iload_n 1, 1) := by decide +kernel
theorem dX7_learners_62 : decode cX7_learners 62 = .ok (.baload, 1) := by decide +kernel
theorem dX7_learners_63 : decode cX7_learners 63 = .ok (.ifCond .ne 6, 3) := by decide +kernel
theorem dX7_learners_66 : decode cX7_learners 66 = .ok (.bipush (-11), 2) := by decide +kernel
theorem dX7_learners_68 : decode cX7_learners 68 = .ok (.ireturn, 1) := by decide +kernel
theorem dX7_learners_69 : decode cX7_learners 69 = .ok (.iconst 0, 1) := by decide +kernel
theorem dX7_learners_70 : decode cX7_learners 70 = .ok (.istore 5, 2) := by decide +kernel
theorem dX7_learners_72 : decode cX7_learners 72 = .ok (.iconst 0, 1) := by decide +kernel
theorem dX7_learners_73 : decode cX7_learners 73 = .ok (.istore 6, 2) := by decide +kernel
theorem dX7_learners_75 : decode cX7_learners 75 = .ok (.iload 6, 2) := by decide +kernel
theorem dX7_learners_77 : decode cX7_learners 77 = .ok (.iload 4, 2) := by decide +kernel
theorem dX7_learners_79 : decode cX7_learners 79 = .ok (.if_icmp .ge 79, 3) := by decide +kernel
theorem dX7_learners_82 : decode cX7_learners 82 = .ok (.iload_n 3, 1) := by decide +kernel
theorem dX7_learners_83 : decode cX7_learners 83 = .ok (.ifCond .lt 20, 3) := by decide +kernel
theorem dX7_learners_86 : decode cX7_learners 86 = .ok (.iload_n 3, 1) := by decide +kernel
theorem dX7_learners_87 : decode cX7_learners 87 = .ok (.aload_n 0, 1) := by decide +kernel
theorem dX7_learners_88 : decode cX7_learners 88 = .ok (.getfield 60, 3) := by decide +kernel
theorem dX7_learners_91 : decode cX7_learners 91 = .ok (.iload_n 1, 1) := by decide +kernel
theorem dX7_learners_92 : decode cX7_learners 92 = .ok (.iaload, 1) := by decide +kernel
theorem dX7_learners_93 : decode cX7_learners 93 = .ok (.iconst 2, 1) := by decide +kernel
theorem dX7_learners_94 : decode cX7_learners 94 = .ok (.iload 6, 2) := by decide +kernel
theorem dX7_learners_96 : decode cX7_learners 96 = .ok (.imul, 1) := by decide +kernel
theorem dX7_learners_97 : decode cX7_learners 97 = .ok (.isub, 1) := by decide +kernel
theorem dX7_learners_98 : decode cX7_learners 98 = .ok (.iconst 2, 1) := by decide +kernel
theorem dX7_learners_99 : decode cX7_learners 99 = .ok (.isub, 1) := by decide +kernel
theorem dX7_learners_100 : decode cX7_learners 100 = .ok (.if_icmp .le 6, 3) := by decide +kernel
theorem dX7_learners_103 : decode cX7_learners 103 = .ok (.bipush (-12), 2) := by decide +kernel
theorem dX7_learners_105 : decode cX7_learners 105 = .ok (.ireturn, 1) := by decide +kernel
theorem dX7_learners_106 : decode cX7_learners 106 = .ok (.bipush 40, 2) := by decide +kernel
theorem dX7_learners_108 : decode cX7_learners 108 = .ok (.iload_n 1, 1) := by decide +kernel
theorem dX7_learners_109 : decode cX7_learners 109 = .ok (.imul, 1) := by decide +kernel
theorem dX7_learners_110 : decode cX7_learners 110 = .ok (.iload_n 3, 1) := by decide +kernel
theorem dX7_learners_111 : decode cX7_learners 111 = .ok (.iadd, 1) := by decide +kernel
theorem dX7_learners_112 : decode cX7_learners 112 = .ok (.iconst 2, 1) := by decide +kernel
theorem dX7_learners_113 : decode cX7_learners 113 = .ok (.iload 6, 2) := by decide +kernel
theorem dX7_learners_115 : decode cX7_learners 115 = .ok (.imul, 1) := by decide +kernel
theorem dX7_learners_116 : decode cX7_learners 116 = .ok (.iadd, 1) := by decide +kernel
theorem dX7_learners_117 : decode cX7_learners 117 = .ok (.istore 7, 2) := by decide +kernel
theorem dX7_learners_119 : decode cX7_learners 119 = .ok (.iload 5, 2) := by decide +kernel
theorem dX7_learners_121 : decode cX7_learners 121 = .ok (.aload_n 0, 1) := by decide +kernel
theorem dX7_learners_122 : decode cX7_learners 122 = .ok (.aload_n 0, 1) := by decide +kernel
theorem dX7_learners_123 : decode cX7_learners 123 = .ok (.getfield 63, 3) := by decide +kernel
theorem dX7_learners_126 : decode cX7_learners 126 = .ok (.iload 7, 2) := by decide +kernel
theorem dX7_learners_128 : decode cX7_learners 128 = .ok (.iaload, 1) := by decide +kernel
theorem dX7_learners_129 : decode cX7_learners 129 = .ok (.aload_n 0, 1) := by decide +kernel
theorem dX7_learners_130 : decode cX7_learners 130 = .ok (.getfield 63, 3) := by decide +kernel
theorem dX7_learners_133 : decode cX7_learners 133 = .ok (.iload 7, 2) := by decide +kernel
theorem dX7_learners_135 : decode cX7_learners 135 = .ok (.iconst 1, 1) := by decide +kernel
theorem dX7_learners_136 : decode cX7_learners 136 = .ok (.iadd, 1) := by decide +kernel
theorem dX7_learners_137 : decode cX7_learners 137 = .ok (.iaload, 1) := by decide +kernel
theorem dX7_learners_138 : decode cX7_learners 138 = .ok (.invokevirtual 432, 3) := by decide +kernel
theorem dX7_learners_141 : decode cX7_learners 141 = .ok (.ifCond .lt 7, 3) := by decide +kernel
theorem dX7_learners_144 : decode cX7_learners 144 = .ok (.iconst 1, 1) := by decide +kernel
theorem dX7_learners_145 : decode cX7_learners 145 = .ok (.goto 4, 3) := by decide +kernel
theorem dX7_learners_148 : decode cX7_learners 148 = .ok (.iconst 0, 1) := by decide +kernel
theorem dX7_learners_149 : decode cX7_learners 149 = .ok (.iadd, 1) := by decide +kernel
theorem dX7_learners_150 : decode cX7_learners 150 = .ok (.istore 5, 2) := by decide +kernel
theorem dX7_learners_152 : decode cX7_learners 152 = .ok (.iinc 6 1, 3) := by decide +kernel
theorem dX7_learners_155 : decode cX7_learners 155 = .ok (.goto (-80), 3) := by decide +kernel
theorem dX7_learners_158 : decode cX7_learners 158 = .ok (.iload 5, 2) := by decide +kernel
theorem dX7_learners_160 : decode cX7_learners 160 = .ok (.ireturn, 1) := by decide +kernel
theorem dX7_over_0 : decode cX7_over 0 = .ok (.iload_n 0, 1) := by decide +kernel
theorem dX7_over_1 : decode cX7_over 1 = .ok (.ifCond .ne 7, 3) := by decide +kernel
theorem dX7_over_4 : decode cX7_over 4 = .ok (.iconst (-1), 1) := by decide +kernel
theorem dX7_over_5 : decode cX7_over 5 = .ok (.goto 22, 3) := by decide +kernel
theorem dX7_over_8 : decode cX7_over 8 = .ok (.iload_n 0, 1) := by decide +kernel
theorem dX7_over_9 : decode cX7_over 9 = .ok (.iconst 3, 1) := by decide +kernel
theorem dX7_over_10 : decode cX7_over 10 = .ok (.if_icmp .ne 7, 3) := by decide +kernel
theorem dX7_over_13 : decode cX7_over 13 = .ok (.iconst 1, 1) := by decide +kernel
theorem dX7_over_14 : decode cX7_over 14 = .ok (.goto 13, 3) := by decide +kernel
theorem dX7_over_17 : decode cX7_over 17 = .ok (.iload_n 0, 1) := by decide +kernel
theorem dX7_over_18 : decode cX7_over 18 = .ok (.iconst 4, 1) := by decide +kernel
theorem dX7_over_19 : decode cX7_over 19 = .ok (.if_icmp .ne 7, 3) := by decide +kernel
theorem dX7_over_22 : decode cX7_over 22 = .ok (.iconst 2, 1) := by decide +kernel
theorem dX7_over_23 : decode cX7_over 23 = .ok (.goto 4, 3) := by decide +kernel
theorem dX7_over_26 : decode cX7_over 26 = .ok (.iconst 0, 1) := by decide +kernel
theorem dX7_over_27 : decode cX7_over 27 = .ok (.ireturn, 1) := by decide +kernel
theorem dX7_taken_0 : decode cX7_taken 0 = .ok (.iload_n 2, 1) := by decide +kernel
theorem dX7_taken_1 : decode cX7_taken 1 = .ok (.i2l, 1) := by decide +kernel
theorem dX7_taken_2 : decode cX7_taken 2 = .ok (.lconst 0, 1) := by decide +kernel
theorem dX7_taken_3 : decode cX7_taken 3 = .ok (.ldc2_w 120, 3) := by decide +kernel
theorem dX7_taken_6 : decode cX7_taken 6 = .ok (.invokestatic 76, 3) := by decide +kernel
theorem dX7_taken_9 : decode cX7_taken 9 = .ok (.ifCond .ne 6, 3) := by decide +kernel
theorem dX7_taken_12 : decode cX7_taken 12 = .ok (.bipush (-2), 2) := by decide +kernel
theorem dX7_taken_14 : decode cX7_taken 14 = .ok (.ireturn, 1) := by decide +kernel
theorem dX7_taken_15 : decode cX7_taken 15 = .ok (.aload_n 0, 1) := by decide +kernel
theorem dX7_taken_16 : decode cX7_taken 16 = .ok (.iload_n 1, 1) := by decide +kernel
theorem dX7_taken_17 : decode cX7_taken 17 = .ok (.invokevirtual 86, 3) := by decide +kernel
theorem dX7_taken_20 : decode cX7_taken 20 = .ok (.ifCond .ne 6, 3) := by decide +kernel
theorem dX7_taken_23 : decode cX7_taken 23 = .ok (.bipush (-11), 2) := by decide +kernel
theorem dX7_taken_25 : decode cX7_taken 25 = .ok (.ireturn, 1) := by decide +kernel
theorem dX7_taken_26 : decode cX7_taken 26 = .ok (.aload_n 0, 1) := by decide +kernel
theorem dX7_taken_27 : decode cX7_taken 27 = .ok (.getfield 26, 3) := by decide +kernel
theorem dX7_taken_30 : decode cX7_taken 30 = .ok (.iload_n 1, 1) := by decide +kernel
theorem dX7_taken_31 : decode cX7_taken 31 = .ok (.iaload, 1) := by decide +kernel
theorem dX7_taken_32 : decode cX7_taken 32 = .ok (.istore_n 3, 1) := by decide +kernel
theorem dX7_taken_33 : decode cX7_taken 33 = .ok (.iload_n 3, 1) := by decide +kernel
theorem dX7_taken_34 : decode cX7_taken 34 = .ok (.iconst (-1), 1) := by decide +kernel
theorem dX7_taken_35 : decode cX7_taken 35 = .ok (.if_icmp .eq 16, 3) := by decide +kernel
theorem dX7_taken_38 : decode cX7_taken 38 = .ok (.iload_n 3, 1) := by decide +kernel
theorem dX7_taken_39 : decode cX7_taken 39 = .ok (.iload_n 2, 1) := by decide +kernel
theorem dX7_taken_40 : decode cX7_taken 40 = .ok (.if_icmp .eq 11, 3) := by decide +kernel
theorem dX7_taken_43 : decode cX7_taken 43 = .ok (.iload_n 3, 1) := by decide +kernel
theorem dX7_taken_44 : decode cX7_taken 44 = .ok (.invokestatic 435, 3) := by decide +kernel
theorem dX7_taken_47 : decode cX7_taken 47 = .ok (.istore_n 3, 1) := by decide +kernel
theorem dX7_taken_48 : decode cX7_taken 48 = .ok (.goto (-15), 3) := by decide +kernel
theorem dX7_taken_51 : decode cX7_taken 51 = .ok (.iload_n 3, 1) := by decide +kernel
theorem dX7_taken_52 : decode cX7_taken 52 = .ok (.iload_n 2, 1) := by decide +kernel
theorem dX7_taken_53 : decode cX7_taken 53 = .ok (.if_icmp .ne 12, 3) := by decide +kernel
theorem dX7_taken_56 : decode cX7_taken 56 = .ok (.aload_n 0, 1) := by decide +kernel
theorem dX7_taken_57 : decode cX7_taken 57 = .ok (.getfield 29, 3) := by decide +kernel
theorem dX7_taken_60 : decode cX7_taken 60 = .ok (.iload_n 1, 1) := by decide +kernel
theorem dX7_taken_61 : decode cX7_taken 61 = .ok (.iaload, 1) := by decide +kernel
theorem dX7_taken_62 : decode cX7_taken 62 = .ok (.goto 5, 3) := by decide +kernel
theorem dX7_taken_65 : decode cX7_taken 65 = .ok (.bipush (-13), 2) := by decide +kernel
theorem dX7_taken_67 : decode cX7_taken 67 = .ok (.ireturn, 1) := by decide +kernel
theorem dJ0_length_8abf5_0 : decode cJ0_length_8abf5 0 = .ok (.aload_n 0, 1) := by decide +kernel
theorem dJ0_length_8abf5_1 : decode cJ0_length_8abf5 1 = .ok (.getfield 9, 3) := by decide +kernel
theorem dJ0_length_8abf5_4 : decode cJ0_length_8abf5 4 = .ok (.arraylength, 1) := by decide +kernel
theorem dJ0_length_8abf5_5 : decode cJ0_length_8abf5 5 = .ok (.aload_n 0, 1) := by decide +kernel
theorem dJ0_length_8abf5_6 : decode cJ0_length_8abf5 6 = .ok (.invokevirtual 335, 3) := by decide +kernel
theorem dJ0_length_8abf5_9 : decode cJ0_length_8abf5 9 = .ok (.ishr, 1) := by decide +kernel
theorem dJ0_length_8abf5_10 : decode cJ0_length_8abf5 10 = .ok (.ireturn, 1) := by decide +kernel
theorem dJ0_coder_7d493_0 : decode cJ0_coder_7d493 0 = .ok (.getstatic 38, 3) := by decide +kernel
theorem dJ0_coder_7d493_3 : decode cJ0_coder_7d493 3 = .ok (.ifCond .eq 10, 3) := by decide +kernel
theorem dJ0_coder_7d493_6 : decode cJ0_coder_7d493 6 = .ok (.aload_n 0, 1) := by decide +kernel
theorem dJ0_coder_7d493_7 : decode cJ0_coder_7d493 7 = .ok (.getfield 15, 3) := by decide +kernel
theorem dJ0_coder_7d493_10 : decode cJ0_coder_7d493 10 = .ok (.goto 4, 3) := by decide +kernel
theorem dJ0_coder_7d493_13 : decode cJ0_coder_7d493 13 = .ok (.iconst 1, 1) := by decide +kernel
theorem dJ0_coder_7d493_14 : decode cJ0_coder_7d493 14 = .ok (.ireturn, 1) := by decide +kernel
theorem dJ0_charAt_5068e_0 : decode cJ0_charAt_5068e 0 = .ok (.aload_n 0, 1) := by decide +kernel
theorem dJ0_charAt_5068e_1 : decode cJ0_charAt_5068e 1 = .ok (.invokevirtual 492, 3) := by decide +kernel
theorem dJ0_charAt_5068e_4 : decode cJ0_charAt_5068e 4 = .ok (.ifCond .eq 12, 3) := by decide +kernel
theorem dJ0_charAt_5068e_7 : decode cJ0_charAt_5068e 7 = .ok (.aload_n 0, 1) := by decide +kernel
theorem dJ0_charAt_5068e_8 : decode cJ0_charAt_5068e 8 = .ok (.getfield 9, 3) := by decide +kernel
theorem dJ0_charAt_5068e_11 : decode cJ0_charAt_5068e 11 = .ok (.iload_n 1, 1) := by decide +kernel
theorem dJ0_charAt_5068e_12 : decode cJ0_charAt_5068e 12 = .ok (.invokestatic 495, 3) := by decide +kernel
theorem dJ0_charAt_5068e_15 : decode cJ0_charAt_5068e 15 = .ok (.ireturn, 1) := by decide +kernel
theorem dJ0_charAt_5068e_16 : decode cJ0_charAt_5068e 16 = .ok (.aload_n 0, 1) := by decide +kernel
theorem dJ0_charAt_5068e_17 : decode cJ0_charAt_5068e 17 = .ok (.getfield 9, 3) := by decide +kernel
theorem dJ0_charAt_5068e_20 : decode cJ0_charAt_5068e 20 = .ok (.iload_n 1, 1) := by decide +kernel
theorem dJ0_charAt_5068e_21 : decode cJ0_charAt_5068e 21 = .ok (.invokestatic 498, 3) := by decide +kernel
theorem dJ0_charAt_5068e_24 : decode cJ0_charAt_5068e 24 = .ok (.ireturn, 1) := by decide +kernel
theorem dJ0_isLatin1_aae02_0 : decode cJ0_isLatin1_aae02 0 = .ok (.getstatic 38, 3) := by decide +kernel
theorem dJ0_isLatin1_aae02_3 : decode cJ0_isLatin1_aae02 3 = .ok (.ifCond .eq 14, 3) := by decide +kernel
theorem dJ0_isLatin1_aae02_6 : decode cJ0_isLatin1_aae02 6 = .ok (.aload_n 0, 1) := by decide +kernel
theorem dJ0_isLatin1_aae02_7 : decode cJ0_isLatin1_aae02 7 = .ok (.getfield 15, 3) := by decide +kernel
theorem dJ0_isLatin1_aae02_10 : decode cJ0_isLatin1_aae02 10 = .ok (.ifCond .ne 7, 3) := by decide +kernel
theorem dJ0_isLatin1_aae02_13 : decode cJ0_isLatin1_aae02 13 = .ok (.iconst 1, 1) := by decide +kernel
theorem dJ0_isLatin1_aae02_14 : decode cJ0_isLatin1_aae02 14 = .ok (.goto 4, 3) := by decide +kernel
theorem dJ0_isLatin1_aae02_17 : decode cJ0_isLatin1_aae02 17 = .ok (.iconst 0, 1) := by decide +kernel
theorem dJ0_isLatin1_aae02_18 : decode cJ0_isLatin1_aae02 18 = .ok (.ireturn, 1) := by decide +kernel
theorem dJ0_checkIndex_df160_0 : decode cJ0_checkIndex_df160 0 = .ok (.iload_n 0, 1) := by decide +kernel
theorem dJ0_checkIndex_df160_1 : decode cJ0_checkIndex_df160 1 = .ok (.iload_n 1, 1) := by decide +kernel
theorem dJ0_checkIndex_df160_2 : decode cJ0_checkIndex_df160 2 = .ok (.getstatic 1053, 3) := by decide +kernel
theorem dJ0_checkIndex_df160_5 : decode cJ0_checkIndex_df160 5 = .ok (.invokestatic 1059, 3) := by decide +kernel
theorem dJ0_checkIndex_df160_8 : decode cJ0_checkIndex_df160 8 = .ok (.pop, 1) := by decide +kernel
theorem dJ0_checkIndex_df160_9 : decode cJ0_checkIndex_df160 9 = .ok (.return_, 1) := by decide +kernel
theorem dJ1_charAt_3b067_0 : decode cJ1_charAt_3b067 0 = .ok (.iload_n 1, 1) := by decide +kernel
theorem dJ1_charAt_3b067_1 : decode cJ1_charAt_3b067 1 = .ok (.aload_n 0, 1) := by decide +kernel
theorem dJ1_charAt_3b067_2 : decode cJ1_charAt_3b067 2 = .ok (.arraylength, 1) := by decide +kernel
theorem dJ1_charAt_3b067_3 : decode cJ1_charAt_3b067 3 = .ok (.invokestatic 9, 3) := by decide +kernel
theorem dJ1_charAt_3b067_6 : decode cJ1_charAt_3b067 6 = .ok (.aload_n 0, 1) := by decide +kernel
theorem dJ1_charAt_3b067_7 : decode cJ1_charAt_3b067 7 = .ok (.iload_n 1, 1) := by decide +kernel
theorem dJ1_charAt_3b067_8 : decode cJ1_charAt_3b067 8 = .ok (.baload, 1) := by decide +kernel
theorem dJ1_charAt_3b067_9 : decode cJ1_charAt_3b067 9 = .ok (.sipush 255, 3) := by decide +kernel
theorem dJ1_charAt_3b067_12 : decode cJ1_charAt_3b067 12 = .ok (.iand, 1) := by decide +kernel
theorem dJ1_charAt_3b067_13 : decode cJ1_charAt_3b067 13 = .ok (.i2c, 1) := by decide +kernel
theorem dJ1_charAt_3b067_14 : decode cJ1_charAt_3b067 14 = .ok (.ireturn, 1) := by decide +kernel
theorem dJ3_checkIndex_8e157_0 : decode cJ3_checkIndex_8e157 0 = .ok (.iload_n 0, 1) := by decide +kernel
theorem dJ3_checkIndex_8e157_1 : decode cJ3_checkIndex_8e157 1 = .ok (.ifCond .lt 8, 3) := by decide +kernel
theorem dJ3_checkIndex_8e157_4 : decode cJ3_checkIndex_8e157 4 = .ok (.iload_n 0, 1) := by decide +kernel
theorem dJ3_checkIndex_8e157_5 : decode cJ3_checkIndex_8e157 5 = .ok (.iload_n 1, 1) := by decide +kernel
theorem dJ3_checkIndex_8e157_6 : decode cJ3_checkIndex_8e157 6 = .ok (.if_icmp .lt 10, 3) := by decide +kernel
theorem dJ3_checkIndex_8e157_9 : decode cJ3_checkIndex_8e157 9 = .ok (.aload_n 2, 1) := by decide +kernel
theorem dJ3_checkIndex_8e157_10 : decode cJ3_checkIndex_8e157 10 = .ok (.iload_n 0, 1) := by decide +kernel
theorem dJ3_checkIndex_8e157_11 : decode cJ3_checkIndex_8e157 11 = .ok (.iload_n 1, 1) := by decide +kernel
theorem dJ3_checkIndex_8e157_12 : decode cJ3_checkIndex_8e157 12 = .ok (.invokestatic 95, 3) := by decide +kernel
theorem dJ3_checkIndex_8e157_15 : decode cJ3_checkIndex_8e157 15 = .ok (.athrow, 1) := by decide +kernel
theorem dJ3_checkIndex_8e157_16 : decode cJ3_checkIndex_8e157 16 = .ok (.iload_n 0, 1) := by decide +kernel
theorem dJ3_checkIndex_8e157_17 : decode cJ3_checkIndex_8e157 17 = .ok (.ireturn, 1) := by decide +kernel
theorem dJ7_fill_53178_0 : decode cJ7_fill_53178 0 = .ok (.iconst 0, 1) := by decide +kernel
theorem dJ7_fill_53178_1 : decode cJ7_fill_53178 1 = .ok (.istore_n 2, 1) := by decide +kernel
theorem dJ7_fill_53178_2 : decode cJ7_fill_53178 2 = .ok (.aload_n 0, 1) := by decide +kernel
theorem dJ7_fill_53178_3 : decode cJ7_fill_53178 3 = .ok (.arraylength, 1) := by decide +kernel
theorem dJ7_fill_53178_4 : decode cJ7_fill_53178 4 = .ok (.istore_n 3, 1) := by decide +kernel
theorem dJ7_fill_53178_5 : decode cJ7_fill_53178 5 = .ok (.iload_n 2, 1) := by decide +kernel
theorem dJ7_fill_53178_6 : decode cJ7_fill_53178 6 = .ok (.iload_n 3, 1) := by decide +kernel
theorem dJ7_fill_53178_7 : decode cJ7_fill_53178 7 = .ok (.if_icmp .ge 13, 3) := by decide +kernel
theorem dJ7_fill_53178_10 : decode cJ7_fill_53178 10 = .ok (.aload_n 0, 1) := by decide +kernel
theorem dJ7_fill_53178_11 : decode cJ7_fill_53178 11 = .ok (.iload_n 2, 1) := by decide +kernel
theorem dJ7_fill_53178_12 : decode cJ7_fill_53178 12 = .ok (.iload_n 1, 1) := by decide +kernel
theorem dJ7_fill_53178_13 : decode cJ7_fill_53178 13 = .ok (.iastore, 1) := by decide +kernel
theorem dJ7_fill_53178_14 : decode cJ7_fill_53178 14 = .ok (.iinc 2 1, 3) := by decide +kernel
theorem dJ7_fill_53178_17 : decode cJ7_fill_53178 17 = .ok (.goto (-12), 3) := by decide +kernel
theorem dJ7_fill_53178_20 : decode cJ7_fill_53178 20 = .ok (.return_, 1) := by decide +kernel
section SIM
variable {p : Program} {l : Launch} {e : Env} {R : Room} {s : State} {m : MethodId} {args : Array Value} {below : List Frame} {meth : Method} {c : Code} {D : va_G} {cA : Nat → ClassId} {ad : Nat → Nat} {bs n0 z0 d : Nat} {H0 : Heap} {rv : Option Value} {hf : aM} {E : Nat → List Value → aM → Option Value → aM → Prop} {X : aXt × Value}

set_option maxHeartbeats 4000000 in
set_option maxRecDepth 20000 in
theorem sm_X7_image (hC : aC p s m args c cX7_image 2 RX7 D cA ad bs n0 H0 X) (hF : ∀ ml, ml ≤ 41 → aFit R d ml) (hRm : 16 ≤ R.frames ∧ 1000 ≤ R.locals) (hE : aCalls l D cA ad bs X d E) (hr : meth.sig.returnType = (some .int)) (hlk : meth.locks = false) : aSims (fun f i => aSim p l e R s m args below meth c (aEnd below s args D cA ad bs n0 z0 rv hf) 2 D cA ad bs n0 z0 H0 (apc pc_X7_image) rv hf E f i) (cd_X7_image) 0 := by
  unfold cd_X7_image
  refine aSims_c (i := 0) (s_iconst hC dX7_image_0 rfl rfl rfl) ?_
  refine aSims_c (i := 1) (s_istore_n hC dX7_image_1 rfl rfl) ?_
  refine aSims_c (i := 2) (s_iload_n hC dX7_image_2 rfl rfl) ?_
  refine aSims_c (i := 3) (s_bipush hC dX7_image_3 rfl rfl rfl) ?_
  refine aSims_c (i := 4) (s_icmp_ge hC dX7_image_5 rfl rfl rfl) ?_
  refine aSims_c (i := 5) (s_aload_n hC dX7_image_8 rfl rfl) ?_
  refine aSims_c (i := 6) (s_get hC dX7_image_9 rfl rfl w_873 rfl rfl inB7 (by decide)) ?_
  refine aSims_c (i := 7) (s_iload_n hC dX7_image_12 rfl rfl) ?_
  refine aSims_c (i := 8) (s_aload_n hC dX7_image_13 rfl rfl) ?_
  refine aSims_c (i := 9) (s_get hC dX7_image_14 rfl rfl w_850 rfl rfl inB7 (by decide)) ?_
  refine aSims_c (i := 10) (s_iload_n hC dX7_image_17 rfl rfl) ?_
  refine aSims_c (i := 11) (s_iaload hC hX0 dX7_image_18 rfl rfl) ?_
  refine aSims_c (i := 12) (s_iastore hC dX7_image_19 rfl rfl) ?_
  refine aSims_c (i := 13) (s_iinc hC dX7_image_20 rfl rfl) ?_
  refine aSims_c (i := 14) (s_goto hC dX7_image_23 rfl rfl) ?_
  refine aSims_c (i := 15) (s_iconst hC dX7_image_26 rfl rfl rfl) ?_
  refine aSims_c (i := 16) (s_istore_n hC dX7_image_27 rfl rfl) ?_
  refine aSims_c (i := 17) (s_iload_n hC dX7_image_28 rfl rfl) ?_
  refine aSims_c (i := 18) (s_iconst hC dX7_image_29 rfl rfl rfl) ?_
  refine aSims_c (i := 19) (s_icmp_ge hC dX7_image_30 rfl rfl rfl) ?_
  refine aSims_c (i := 20) (s_aload_n hC dX7_image_33 rfl rfl) ?_
  refine aSims_c (i := 21) (s_get hC dX7_image_34 rfl rfl w_874 rfl rfl inB7 (by decide)) ?_
  refine aSims_c (i := 22) (s_iload_n hC dX7_image_37 rfl rfl) ?_
  refine aSims_c (i := 23) (s_aload_n hC dX7_image_38 rfl rfl) ?_
  refine aSims_c (i := 24) (s_get hC dX7_image_39 rfl rfl w_852 rfl rfl inB7 (by decide)) ?_
  refine aSims_c (i := 25) (s_iload_n hC dX7_image_42 rfl rfl) ?_
  refine aSims_c (i := 26) (s_iaload hC hX0 dX7_image_43 rfl rfl) ?_
  refine aSims_c (i := 27) (s_iastore hC dX7_image_44 rfl rfl) ?_
  refine aSims_c (i := 28) (s_iinc hC dX7_image_45 rfl rfl) ?_
  refine aSims_c (i := 29) (s_goto hC dX7_image_48 rfl rfl) ?_
  refine aSims_c (i := 30) (s_iconst hC dX7_image_51 rfl rfl rfl) ?_
  refine aSims_c (i := 31) (s_istore_n hC dX7_image_52 rfl rfl) ?_
  refine aSims_c (i := 32) (s_iload_n hC dX7_image_53 rfl rfl) ?_
  refine aSims_c (i := 33) (s_bipush hC dX7_image_54 rfl rfl rfl) ?_
  refine aSims_c (i := 34) (s_icmp_ge hC dX7_image_56 rfl rfl rfl) ?_
  refine aSims_c (i := 35) (s_aload_n hC dX7_image_59 rfl rfl) ?_
  refine aSims_c (i := 36) (s_get hC dX7_image_60 rfl rfl w_875 rfl rfl inB7 (by decide)) ?_
  refine aSims_c (i := 37) (s_iload_n hC dX7_image_63 rfl rfl) ?_
  refine aSims_c (i := 38) (s_aload_n hC dX7_image_64 rfl rfl) ?_
  refine aSims_c (i := 39) (s_get hC dX7_image_65 rfl rfl w_853 rfl rfl inB7 (by decide)) ?_
  refine aSims_c (i := 40) (s_iload_n hC dX7_image_68 rfl rfl) ?_
  refine aSims_c (i := 41) (s_iaload hC hX0 dX7_image_69 rfl rfl) ?_
  refine aSims_c (i := 42) (s_iastore hC dX7_image_70 rfl rfl) ?_
  refine aSims_c (i := 43) (s_iinc hC dX7_image_71 rfl rfl) ?_
  refine aSims_c (i := 44) (s_goto hC dX7_image_74 rfl rfl) ?_
  refine aSims_c (i := 45) (s_aload_n hC dX7_image_77 rfl rfl) ?_
  refine aSims_c (i := 46) (s_aload_n hC dX7_image_78 rfl rfl) ?_
  refine aSims_c (i := 47) (s_get hC dX7_image_79 rfl rfl w_854 rfl rfl inB7 (by decide)) ?_
  refine aSims_c (i := 48) (s_put hC dX7_image_82 rfl rfl w_876 rfl rfl inB7 tyX7_ok nmX7 (by decide) rfl) ?_
  refine aSims_c (i := 49) (s_aload_n hC dX7_image_85 rfl rfl) ?_
  refine aSims_c (i := 50) (s_aload_n hC dX7_image_86 rfl rfl) ?_
  refine aSims_c (i := 51) (s_get hC dX7_image_87 rfl rfl w_849 rfl rfl inB7 (by decide)) ?_
  refine aSims_c (i := 52) (s_put hC dX7_image_90 rfl rfl w_877 rfl rfl inB7 tyX7_ok nmX7 (by decide) rfl) ?_
  refine aSims_c (i := 53) (s_aload_n hC dX7_image_93 rfl rfl) ?_
  refine aSims_c (i := 54) (s_aload_n hC dX7_image_94 rfl rfl) ?_
  refine aSims_c (i := 55) (s_get hC dX7_image_95 rfl rfl w_846 rfl rfl inB7 (by decide)) ?_
  refine aSims_c (i := 56) (s_put hC dX7_image_98 rfl rfl w_878 rfl rfl inB7 tyX7_ok nmX7 (by decide) rfl) ?_
  refine aSims_c (i := 57) (s_aload_n hC dX7_image_101 rfl rfl) ?_
  refine aSims_c (i := 58) (s_get hC dX7_image_102 rfl rfl w_854 rfl rfl inB7 (by decide)) ?_
  refine aSims_c (i := 59) (s_iret hC dX7_image_105 rfl hr hlk nar_qI) ?_
  exact aSims_n
set_option maxHeartbeats 4000000 in
set_option maxRecDepth 20000 in
theorem sm_X7_back (hC : aC p s m args c cX7_back 2 RX7 D cA ad bs n0 H0 X) (hF : ∀ ml, ml ≤ 41 → aFit R d ml) (hRm : 16 ≤ R.frames ∧ 1000 ≤ R.locals) (hE : aCalls l D cA ad bs X d E) (hr : meth.sig.returnType = (some .int)) (hlk : meth.locks = false) : aSims (fun f i => aSim p l e R s m args below meth c (aEnd below s args D cA ad bs n0 z0 rv hf) 2 D cA ad bs n0 z0 H0 (apc pc_X7_back) rv hf E f i) (cd_X7_back) 0 := by
  unfold cd_X7_back
  refine aSims_c (i := 0) (s_aload_n hC dX7_back_0 rfl rfl) ?_
  refine aSims_c (i := 1) (s_get hC dX7_back_1 rfl rfl w_876 rfl rfl inB7 (by decide)) ?_
  refine aSims_c (i := 2) (s_iconst hC dX7_back_4 rfl rfl rfl) ?_
  refine aSims_c (i := 3) (s_icmp_ne hC dX7_back_5 rfl rfl rfl) ?_
  refine aSims_c (i := 4) (s_bipush hC dX7_back_8 rfl rfl rfl) ?_
  refine aSims_c (i := 5) (s_iret hC dX7_back_10 rfl hr hlk nar_qI) ?_
  refine aSims_c (i := 6) (s_iconst hC dX7_back_11 rfl rfl rfl) ?_
  refine aSims_c (i := 7) (s_istore_n hC dX7_back_12 rfl rfl) ?_
  refine aSims_c (i := 8) (s_iload_n hC dX7_back_13 rfl rfl) ?_
  refine aSims_c (i := 9) (s_bipush hC dX7_back_14 rfl rfl rfl) ?_
  refine aSims_c (i := 10) (s_icmp_ge hC dX7_back_16 rfl rfl rfl) ?_
  refine aSims_c (i := 11) (s_aload_n hC dX7_back_19 rfl rfl) ?_
  refine aSims_c (i := 12) (s_get hC dX7_back_20 rfl rfl w_850 rfl rfl inB7 (by decide)) ?_
  refine aSims_c (i := 13) (s_iload_n hC dX7_back_23 rfl rfl) ?_
  refine aSims_c (i := 14) (s_aload_n hC dX7_back_24 rfl rfl) ?_
  refine aSims_c (i := 15) (s_get hC dX7_back_25 rfl rfl w_873 rfl rfl inB7 (by decide)) ?_
  refine aSims_c (i := 16) (s_iload_n hC dX7_back_28 rfl rfl) ?_
  refine aSims_c (i := 17) (s_iaload hC hX0 dX7_back_29 rfl rfl) ?_
  refine aSims_c (i := 18) (s_iastore hC dX7_back_30 rfl rfl) ?_
  refine aSims_c (i := 19) (s_iinc hC dX7_back_31 rfl rfl) ?_
  refine aSims_c (i := 20) (s_goto hC dX7_back_34 rfl rfl) ?_
  refine aSims_c (i := 21) (s_iconst hC dX7_back_37 rfl rfl rfl) ?_
  refine aSims_c (i := 22) (s_istore_n hC dX7_back_38 rfl rfl) ?_
  refine aSims_c (i := 23) (s_iload_n hC dX7_back_39 rfl rfl) ?_
  refine aSims_c (i := 24) (s_iconst hC dX7_back_40 rfl rfl rfl) ?_
  refine aSims_c (i := 25) (s_icmp_ge hC dX7_back_41 rfl rfl rfl) ?_
  refine aSims_c (i := 26) (s_aload_n hC dX7_back_44 rfl rfl) ?_
  refine aSims_c (i := 27) (s_get hC dX7_back_45 rfl rfl w_852 rfl rfl inB7 (by decide)) ?_
  refine aSims_c (i := 28) (s_iload_n hC dX7_back_48 rfl rfl) ?_
  refine aSims_c (i := 29) (s_aload_n hC dX7_back_49 rfl rfl) ?_
  refine aSims_c (i := 30) (s_get hC dX7_back_50 rfl rfl w_874 rfl rfl inB7 (by decide)) ?_
  refine aSims_c (i := 31) (s_iload_n hC dX7_back_53 rfl rfl) ?_
  refine aSims_c (i := 32) (s_iaload hC hX0 dX7_back_54 rfl rfl) ?_
  refine aSims_c (i := 33) (s_iastore hC dX7_back_55 rfl rfl) ?_
  refine aSims_c (i := 34) (s_iinc hC dX7_back_56 rfl rfl) ?_
  refine aSims_c (i := 35) (s_goto hC dX7_back_59 rfl rfl) ?_
  refine aSims_c (i := 36) (s_iconst hC dX7_back_62 rfl rfl rfl) ?_
  refine aSims_c (i := 37) (s_istore_n hC dX7_back_63 rfl rfl) ?_
  refine aSims_c (i := 38) (s_iload_n hC dX7_back_64 rfl rfl) ?_
  refine aSims_c (i := 39) (s_bipush hC dX7_back_65 rfl rfl rfl) ?_
  refine aSims_c (i := 40) (s_icmp_ge hC dX7_back_67 rfl rfl rfl) ?_
  refine aSims_c (i := 41) (s_aload_n hC dX7_back_70 rfl rfl) ?_
  refine aSims_c (i := 42) (s_get hC dX7_back_71 rfl rfl w_853 rfl rfl inB7 (by decide)) ?_
  refine aSims_c (i := 43) (s_iload_n hC dX7_back_74 rfl rfl) ?_
  refine aSims_c (i := 44) (s_aload_n hC dX7_back_75 rfl rfl) ?_
  refine aSims_c (i := 45) (s_get hC dX7_back_76 rfl rfl w_875 rfl rfl inB7 (by decide)) ?_
  refine aSims_c (i := 46) (s_iload_n hC dX7_back_79 rfl rfl) ?_
  refine aSims_c (i := 47) (s_iaload hC hX0 dX7_back_80 rfl rfl) ?_
  refine aSims_c (i := 48) (s_iastore hC dX7_back_81 rfl rfl) ?_
  refine aSims_c (i := 49) (s_iinc hC dX7_back_82 rfl rfl) ?_
  refine aSims_c (i := 50) (s_goto hC dX7_back_85 rfl rfl) ?_
  refine aSims_c (i := 51) (s_aload_n hC dX7_back_88 rfl rfl) ?_
  refine aSims_c (i := 52) (s_aload_n hC dX7_back_89 rfl rfl) ?_
  refine aSims_c (i := 53) (s_get hC dX7_back_90 rfl rfl w_876 rfl rfl inB7 (by decide)) ?_
  refine aSims_c (i := 54) (s_put hC dX7_back_93 rfl rfl w_854 rfl rfl inB7 tyX7_ok nmX7 (by decide) rfl) ?_
  refine aSims_c (i := 55) (s_aload_n hC dX7_back_96 rfl rfl) ?_
  refine aSims_c (i := 56) (s_aload_n hC dX7_back_97 rfl rfl) ?_
  refine aSims_c (i := 57) (s_get hC dX7_back_98 rfl rfl w_877 rfl rfl inB7 (by decide)) ?_
  refine aSims_c (i := 58) (s_put hC dX7_back_101 rfl rfl w_849 rfl rfl inB7 tyX7_ok nmX7 (by decide) rfl) ?_
  refine aSims_c (i := 59) (s_aload_n hC dX7_back_104 rfl rfl) ?_
  refine aSims_c (i := 60) (s_aload_n hC dX7_back_105 rfl rfl) ?_
  refine aSims_c (i := 61) (s_get hC dX7_back_106 rfl rfl w_878 rfl rfl inB7 (by decide)) ?_
  refine aSims_c (i := 62) (s_put hC dX7_back_109 rfl rfl w_846 rfl rfl inB7 tyX7_ok nmX7 (by decide) rfl) ?_
  refine aSims_c (i := 63) (s_aload_n hC dX7_back_112 rfl rfl) ?_
  refine aSims_c (i := 64) (s_get hC dX7_back_113 rfl rfl w_854 rfl rfl inB7 (by decide)) ?_
  refine aSims_c (i := 65) (s_iret hC dX7_back_116 rfl hr hlk nar_qI) ?_
  exact aSims_n
set_option maxHeartbeats 4000000 in
set_option maxRecDepth 20000 in
theorem sm_X7_count (hC : aC p s m args c cX7_count 4 RX7 D cA ad bs n0 H0 X) (hF : ∀ ml, ml ≤ 41 → aFit R d ml) (hRm : 16 ≤ R.frames ∧ 1000 ≤ R.locals) (hE : aCalls l D cA ad bs X d E) (hr : meth.sig.returnType = (some .int)) (hlk : meth.locks = false) : aSims (fun f i => aSim p l e R s m args below meth c (aEnd below s args D cA ad bs n0 z0 rv hf) 4 D cA ad bs n0 z0 H0 (apc pc_X7_count) rv hf E f i) (cd_X7_count) 0 := by
  unfold cd_X7_count
  refine aSims_c (i := 0) (s_iload_n hC dX7_count_0 rfl rfl) ?_
  refine aSims_c (i := 1) (s_i2l hC dX7_count_1 rfl rfl) ?_
  refine aSims_c (i := 2) (s_lconst hC dX7_count_2 rfl rfl rfl) ?_
  refine aSims_c (i := 3) (s_ldc2 hC dX7_count_3 w_1376 rfl rfl) ?_
  refine aSims_c (i := 4) (s_callS hC dX7_count_6 rfl rfl (hE 111 _ _ _ _ rfl) (hF _ (by decide)) w_974 w_972 w_973 w_109 (by decide +kernel)) ?_
  refine aSims_c (i := 5) (s_if_ne hC dX7_count_9 rfl rfl rfl) ?_
  refine aSims_c (i := 6) (s_bipush hC dX7_count_12 rfl rfl rfl) ?_
  refine aSims_c (i := 7) (s_iret hC dX7_count_14 rfl hr hlk nar_qI) ?_
  refine aSims_c (i := 8) (s_iload_n hC dX7_count_15 rfl rfl) ?_
  refine aSims_c (i := 9) (s_iconst hC dX7_count_16 rfl rfl rfl) ?_
  refine aSims_c (i := 10) (s_icmp_le hC dX7_count_17 rfl rfl rfl) ?_
  refine aSims_c (i := 11) (s_iload_n hC dX7_count_20 rfl rfl) ?_
  refine aSims_c (i := 12) (s_iconst hC dX7_count_21 rfl rfl rfl) ?_
  refine aSims_c (i := 13) (s_icmp_ne hC dX7_count_22 rfl rfl rfl) ?_
  refine aSims_c (i := 14) (s_aload_n hC dX7_count_25 rfl rfl) ?_
  refine aSims_c (i := 15) (s_get hC dX7_count_26 rfl rfl w_845 rfl rfl inB7 (by decide)) ?_
  refine aSims_c (i := 16) (s_goto hC dX7_count_29 rfl rfl) ?_
  refine aSims_c (i := 17) (s_iload_n hC dX7_count_32 rfl rfl) ?_
  refine aSims_c (i := 18) (s_iconst hC dX7_count_33 rfl rfl rfl) ?_
  refine aSims_c (i := 19) (s_icmp_ne hC dX7_count_34 rfl rfl rfl) ?_
  refine aSims_c (i := 20) (s_aload_n hC dX7_count_37 rfl rfl) ?_
  refine aSims_c (i := 21) (s_get hC dX7_count_38 rfl rfl w_848 rfl rfl inB7 (by decide)) ?_
  refine aSims_c (i := 22) (s_goto hC dX7_count_41 rfl rfl) ?_
  refine aSims_c (i := 23) (s_aload_n hC dX7_count_44 rfl rfl) ?_
  refine aSims_c (i := 24) (s_get hC dX7_count_45 rfl rfl w_846 rfl rfl inB7 (by decide)) ?_
  refine aSims_c (i := 25) (s_iret hC dX7_count_48 rfl hr hlk nar_qI) ?_
  refine aSims_c (i := 26) (s_iconst hC dX7_count_49 rfl rfl rfl) ?_
  refine aSims_c (i := 27) (s_istore_n hC dX7_count_50 rfl rfl) ?_
  refine aSims_c (i := 28) (s_iconst hC dX7_count_51 rfl rfl rfl) ?_
  refine aSims_c (i := 29) (s_istore_n hC dX7_count_52 rfl rfl) ?_
  refine aSims_c (i := 30) (s_iload_n hC dX7_count_53 rfl rfl) ?_
  refine aSims_c (i := 31) (s_aload_n hC dX7_count_54 rfl rfl) ?_
  refine aSims_c (i := 32) (s_get hC dX7_count_55 rfl rfl w_854 rfl rfl inB7 (by decide)) ?_
  refine aSims_c (i := 33) (s_icmp_ge hC dX7_count_58 rfl rfl rfl) ?_
  refine aSims_c (i := 34) (s_iload_n hC dX7_count_61 rfl rfl) ?_
  refine aSims_c (i := 35) (s_aload_n hC dX7_count_62 rfl rfl) ?_
  refine aSims_c (i := 36) (s_get hC dX7_count_63 rfl rfl w_853 rfl rfl inB7 (by decide)) ?_
  refine aSims_c (i := 37) (s_iload_n hC dX7_count_66 rfl rfl) ?_
  refine aSims_c (i := 38) (s_bipush hC dX7_count_67 rfl rfl rfl) ?_
  refine aSims_c (i := 39) (s_callS hC dX7_count_69 rfl rfl (hE 117 _ _ _ _ rfl) (hF _ (by decide)) w_1000 w_998 w_999 w_109 (by decide +kernel)) ?_
  refine aSims_c (i := 40) (s_iaload hC hX0 dX7_count_72 rfl rfl) ?_
  refine aSims_c (i := 41) (s_iadd hC dX7_count_73 rfl rfl) ?_
  refine aSims_c (i := 42) (s_istore_n hC dX7_count_74 rfl rfl) ?_
  refine aSims_c (i := 43) (s_iinc hC dX7_count_75 rfl rfl) ?_
  refine aSims_c (i := 44) (s_goto hC dX7_count_78 rfl rfl) ?_
  refine aSims_c (i := 45) (s_iload_n hC dX7_count_81 rfl rfl) ?_
  refine aSims_c (i := 46) (s_if_ne hC dX7_count_82 rfl rfl rfl) ?_
  refine aSims_c (i := 47) (s_aload_n hC dX7_count_85 rfl rfl) ?_
  refine aSims_c (i := 48) (s_get hC dX7_count_86 rfl rfl w_854 rfl rfl inB7 (by decide)) ?_
  refine aSims_c (i := 49) (s_goto hC dX7_count_89 rfl rfl) ?_
  refine aSims_c (i := 50) (s_iload_n hC dX7_count_92 rfl rfl) ?_
  refine aSims_c (i := 51) (s_iconst hC dX7_count_93 rfl rfl rfl) ?_
  refine aSims_c (i := 52) (s_icmp_ne hC dX7_count_94 rfl rfl rfl) ?_
  refine aSims_c (i := 53) (s_aload_n hC dX7_count_97 rfl rfl) ?_
  refine aSims_c (i := 54) (s_get hC dX7_count_98 rfl rfl w_849 rfl rfl inB7 (by decide)) ?_
  refine aSims_c (i := 55) (s_goto hC dX7_count_101 rfl rfl) ?_
  refine aSims_c (i := 56) (s_iload_n hC dX7_count_104 rfl rfl) ?_
  refine aSims_c (i := 57) (s_iconst hC dX7_count_105 rfl rfl rfl) ?_
  refine aSims_c (i := 58) (s_icmp_ne hC dX7_count_106 rfl rfl rfl) ?_
  refine aSims_c (i := 59) (s_aload_n hC dX7_count_109 rfl rfl) ?_
  refine aSims_c (i := 60) (s_callV (n := 0) hC dX7_count_110 rfl rfl (hE 184 _ _ _ _ rfl) (hF _ (by decide)) w_1270 w_1267 w_1269 w_87 w_109 rfl (by decide +kernel)) ?_
  refine aSims_c (i := 61) (s_goto hC dX7_count_113 rfl rfl) ?_
  refine aSims_c (i := 62) (s_iload_n hC dX7_count_116 rfl rfl) ?_
  refine aSims_c (i := 63) (s_iret hC dX7_count_117 rfl hr hlk nar_qI) ?_
  exact aSims_n
set_option maxHeartbeats 4000000 in
set_option maxRecDepth 20000 in
theorem sm_X7_isSheet (hC : aC p s m args c cX7_isSheet 1 RX7 D cA ad bs n0 H0 X) (hF : ∀ ml, ml ≤ 41 → aFit R d ml) (hRm : 16 ≤ R.frames ∧ 1000 ≤ R.locals) (hE : aCalls l D cA ad bs X d E) (hr : meth.sig.returnType = (some .boolean)) (hlk : meth.locks = false) : aSims (fun f i => aSim p l e R s m args below meth c (aEnd below s args D cA ad bs n0 z0 rv hf) 1 D cA ad bs n0 z0 H0 (apc pc_X7_isSheet) rv hf E f i) (cd_X7_isSheet) 0 := by
  unfold cd_X7_isSheet
  refine aSims_c (i := 0) (s_iload_n hC dX7_isSheet_0 rfl rfl) ?_
  refine aSims_c (i := 1) (s_i2l hC dX7_isSheet_1 rfl rfl) ?_
  refine aSims_c (i := 2) (s_lconst hC dX7_isSheet_2 rfl rfl rfl) ?_
  refine aSims_c (i := 3) (s_ldc2 hC dX7_isSheet_3 w_1291 rfl rfl) ?_
  refine aSims_c (i := 4) (s_callS hC dX7_isSheet_6 rfl rfl (hE 111 _ _ _ _ rfl) (hF _ (by decide)) w_974 w_972 w_973 w_109 (by decide +kernel)) ?_
  refine aSims_c (i := 5) (s_iret hC dX7_isSheet_9 rfl hr hlk nar_qZ) ?_
  exact aSims_n
set_option maxHeartbeats 4000000 in
set_option maxRecDepth 20000 in
theorem sm_X7_sheet (hC : aC p s m args c cX7_sheet 5 RX7 D cA ad bs n0 H0 X) (hF : ∀ ml, ml ≤ 41 → aFit R d ml) (hRm : 16 ≤ R.frames ∧ 1000 ≤ R.locals) (hE : aCalls l D cA ad bs X d E) (hr : meth.sig.returnType = (some .int)) (hlk : meth.locks = false) : aSims (fun f i => aSim p l e R s m args below meth c (aEnd below s args D cA ad bs n0 z0 rv hf) 5 D cA ad bs n0 z0 H0 (apc pc_X7_sheet) rv hf E f i) (cd_X7_sheet) 0 := by
  unfold cd_X7_sheet
  refine aSims_c (i := 0) (s_iload_n hC dX7_sheet_0 rfl rfl) ?_
  refine aSims_c (i := 1) (s_callS hC dX7_sheet_1 rfl rfl (hE 209 _ _ _ _ rfl) (hF _ (by decide)) w_1328 w_1326 w_1327 w_109 (by decide +kernel)) ?_
  refine aSims_c (i := 2) (s_if_eq hC dX7_sheet_4 rfl rfl rfl) ?_
  refine aSims_c (i := 3) (s_iload_n hC dX7_sheet_7 rfl rfl) ?_
  refine aSims_c (i := 4) (s_i2l hC dX7_sheet_8 rfl rfl) ?_
  refine aSims_c (i := 5) (s_ldc2 hC dX7_sheet_9 w_1350 rfl rfl) ?_
  refine aSims_c (i := 6) (s_ldc2 hC dX7_sheet_12 w_1254 rfl rfl) ?_
  refine aSims_c (i := 7) (s_callS hC dX7_sheet_15 rfl rfl (hE 111 _ _ _ _ rfl) (hF _ (by decide)) w_974 w_972 w_973 w_109 (by decide +kernel)) ?_
  refine aSims_c (i := 8) (s_if_eq hC dX7_sheet_18 rfl rfl rfl) ?_
  refine aSims_c (i := 9) (s_iload_n hC dX7_sheet_21 rfl rfl) ?_
  refine aSims_c (i := 10) (s_if_lt hC dX7_sheet_22 rfl rfl rfl) ?_
  refine aSims_c (i := 11) (s_iload_n hC dX7_sheet_25 rfl rfl) ?_
  refine aSims_c (i := 12) (s_bipush hC dX7_sheet_26 rfl rfl rfl) ?_
  refine aSims_c (i := 13) (s_icmp_le hC dX7_sheet_28 rfl rfl rfl) ?_
  refine aSims_c (i := 14) (s_bipush hC dX7_sheet_31 rfl rfl rfl) ?_
  refine aSims_c (i := 15) (s_iret hC dX7_sheet_33 rfl hr hlk nar_qI) ?_
  refine aSims_c (i := 16) (s_iload_n hC dX7_sheet_34 rfl rfl) ?_
  refine aSims_c (i := 17) (s_if_lt hC dX7_sheet_35 rfl rfl rfl) ?_
  refine aSims_c (i := 18) (s_iload_n hC dX7_sheet_38 rfl rfl) ?_
  refine aSims_c (i := 19) (s_if_ge hC dX7_sheet_39 rfl rfl rfl) ?_
  refine aSims_c (i := 20) (s_bipush hC dX7_sheet_42 rfl rfl rfl) ?_
  refine aSims_c (i := 21) (s_iret hC dX7_sheet_44 rfl hr hlk nar_qI) ?_
  refine aSims_c (i := 22) (s_aload_n hC dX7_sheet_45 rfl rfl) ?_
  refine aSims_c (i := 23) (s_get hC dX7_sheet_46 rfl rfl w_879 rfl rfl inB7 (by decide)) ?_
  refine aSims_c (i := 24) (s_iload_n hC dX7_sheet_49 rfl rfl) ?_
  refine aSims_c (i := 25) (s_iload_n hC dX7_sheet_50 rfl rfl) ?_
  refine aSims_c (i := 26) (s_if_lt hC dX7_sheet_51 rfl rfl rfl) ?_
  refine aSims_c (i := 27) (s_iconst hC dX7_sheet_54 rfl rfl rfl) ?_
  refine aSims_c (i := 28) (s_goto hC dX7_sheet_55 rfl rfl) ?_
  refine aSims_c (i := 29) (s_iconst hC dX7_sheet_58 rfl rfl rfl) ?_
  refine aSims_c (i := 30) (s_bastore hC dX7_sheet_59 rfl rfl) ?_
  refine aSims_c (i := 31) (s_aload_n hC dX7_sheet_60 rfl rfl) ?_
  refine aSims_c (i := 32) (s_get hC dX7_sheet_61 rfl rfl w_880 rfl rfl inB7 (by decide)) ?_
  refine aSims_c (i := 33) (s_iload_n hC dX7_sheet_64 rfl rfl) ?_
  refine aSims_c (i := 34) (s_iload_n hC dX7_sheet_65 rfl rfl) ?_
  refine aSims_c (i := 35) (s_iastore hC dX7_sheet_66 rfl rfl) ?_
  refine aSims_c (i := 36) (s_aload_n hC dX7_sheet_67 rfl rfl) ?_
  refine aSims_c (i := 37) (s_get hC dX7_sheet_68 rfl rfl w_881 rfl rfl inB7 (by decide)) ?_
  refine aSims_c (i := 38) (s_iload_n hC dX7_sheet_71 rfl rfl) ?_
  refine aSims_c (i := 39) (s_iload_n hC dX7_sheet_72 rfl rfl) ?_
  refine aSims_c (i := 40) (s_iastore hC dX7_sheet_73 rfl rfl) ?_
  refine aSims_c (i := 41) (s_iconst hC dX7_sheet_74 rfl rfl rfl) ?_
  refine aSims_c (i := 42) (s_istore hC dX7_sheet_75 rfl rfl) ?_
  refine aSims_c (i := 43) (s_iload hC dX7_sheet_77 rfl rfl) ?_
  refine aSims_c (i := 44) (s_iload_n hC dX7_sheet_79 rfl rfl) ?_
  refine aSims_c (i := 45) (s_icmp_ge hC dX7_sheet_80 rfl rfl rfl) ?_
  refine aSims_c (i := 46) (s_iload_n hC dX7_sheet_83 rfl rfl) ?_
  refine aSims_c (i := 47) (s_if_lt hC dX7_sheet_84 rfl rfl rfl) ?_
  refine aSims_c (i := 48) (s_aload_n hC dX7_sheet_87 rfl rfl) ?_
  refine aSims_c (i := 49) (s_get hC dX7_sheet_88 rfl rfl w_882 rfl rfl inB7 (by decide)) ?_
  refine aSims_c (i := 50) (s_bipush hC dX7_sheet_91 rfl rfl rfl) ?_
  refine aSims_c (i := 51) (s_iload_n hC dX7_sheet_93 rfl rfl) ?_
  refine aSims_c (i := 52) (s_imul hC dX7_sheet_94 rfl rfl) ?_
  refine aSims_c (i := 53) (s_iload hC dX7_sheet_95 rfl rfl) ?_
  refine aSims_c (i := 54) (s_iadd hC dX7_sheet_97 rfl rfl) ?_
  refine aSims_c (i := 55) (s_iconst hC dX7_sheet_98 rfl rfl rfl) ?_
  refine aSims_c (i := 56) (s_iastore hC dX7_sheet_99 rfl rfl) ?_
  refine aSims_c (i := 57) (s_iinc hC dX7_sheet_100 rfl rfl) ?_
  refine aSims_c (i := 58) (s_goto hC dX7_sheet_103 rfl rfl) ?_
  refine aSims_c (i := 59) (s_iconst hC dX7_sheet_106 rfl rfl rfl) ?_
  refine aSims_c (i := 60) (s_iret hC dX7_sheet_107 rfl hr hlk nar_qI) ?_
  exact aSims_n
set_option maxHeartbeats 4000000 in
set_option maxRecDepth 20000 in
theorem sm_X7_cell (hC : aC p s m args c cX7_cell 4 RX7 D cA ad bs n0 H0 X) (hF : ∀ ml, ml ≤ 41 → aFit R d ml) (hRm : 16 ≤ R.frames ∧ 1000 ≤ R.locals) (hE : aCalls l D cA ad bs X d E) (hr : meth.sig.returnType = (some .int)) (hlk : meth.locks = false) : aSims (fun f i => aSim p l e R s m args below meth c (aEnd below s args D cA ad bs n0 z0 rv hf) 4 D cA ad bs n0 z0 H0 (apc pc_X7_cell) rv hf E f i) (cd_X7_cell) 0 := by
  unfold cd_X7_cell
  refine aSims_c (i := 0) (s_iload_n hC dX7_cell_0 rfl rfl) ?_
  refine aSims_c (i := 1) (s_callS hC dX7_cell_1 rfl rfl (hE 209 _ _ _ _ rfl) (hF _ (by decide)) w_1328 w_1326 w_1327 w_109 (by decide +kernel)) ?_
  refine aSims_c (i := 2) (s_if_ne hC dX7_cell_4 rfl rfl rfl) ?_
  refine aSims_c (i := 3) (s_bipush hC dX7_cell_7 rfl rfl rfl) ?_
  refine aSims_c (i := 4) (s_iret hC dX7_cell_9 rfl hr hlk nar_qI) ?_
  refine aSims_c (i := 5) (s_aload_n hC dX7_cell_10 rfl rfl) ?_
  refine aSims_c (i := 6) (s_get hC dX7_cell_11 rfl rfl w_879 rfl rfl inB7 (by decide)) ?_
  refine aSims_c (i := 7) (s_iload_n hC dX7_cell_14 rfl rfl) ?_
  refine aSims_c (i := 8) (s_baload hC dX7_cell_15 rfl rfl) ?_
  refine aSims_c (i := 9) (s_if_ne hC dX7_cell_16 rfl rfl rfl) ?_
  refine aSims_c (i := 10) (s_bipush hC dX7_cell_19 rfl rfl rfl) ?_
  refine aSims_c (i := 11) (s_iret hC dX7_cell_21 rfl hr hlk nar_qI) ?_
  refine aSims_c (i := 12) (s_iload_n hC dX7_cell_22 rfl rfl) ?_
  refine aSims_c (i := 13) (s_i2l hC dX7_cell_23 rfl rfl) ?_
  refine aSims_c (i := 14) (s_lconst hC dX7_cell_24 rfl rfl rfl) ?_
  refine aSims_c (i := 15) (s_aload_n hC dX7_cell_25 rfl rfl) ?_
  refine aSims_c (i := 16) (s_get hC dX7_cell_26 rfl rfl w_881 rfl rfl inB7 (by decide)) ?_
  refine aSims_c (i := 17) (s_iload_n hC dX7_cell_29 rfl rfl) ?_
  refine aSims_c (i := 18) (s_iaload hC hX0 dX7_cell_30 rfl rfl) ?_
  refine aSims_c (i := 19) (s_iconst hC dX7_cell_31 rfl rfl rfl) ?_
  refine aSims_c (i := 20) (s_isub hC dX7_cell_32 rfl rfl) ?_
  refine aSims_c (i := 21) (s_i2l hC dX7_cell_33 rfl rfl) ?_
  refine aSims_c (i := 22) (s_callS hC dX7_cell_34 rfl rfl (hE 111 _ _ _ _ rfl) (hF _ (by decide)) w_974 w_972 w_973 w_109 (by decide +kernel)) ?_
  refine aSims_c (i := 23) (s_if_ne hC dX7_cell_37 rfl rfl rfl) ?_
  refine aSims_c (i := 24) (s_bipush hC dX7_cell_40 rfl rfl rfl) ?_
  refine aSims_c (i := 25) (s_iret hC dX7_cell_42 rfl hr hlk nar_qI) ?_
  refine aSims_c (i := 26) (s_aload_n hC dX7_cell_43 rfl rfl) ?_
  refine aSims_c (i := 27) (s_get hC dX7_cell_44 rfl rfl w_882 rfl rfl inB7 (by decide)) ?_
  refine aSims_c (i := 28) (s_bipush hC dX7_cell_47 rfl rfl rfl) ?_
  refine aSims_c (i := 29) (s_iload_n hC dX7_cell_49 rfl rfl) ?_
  refine aSims_c (i := 30) (s_imul hC dX7_cell_50 rfl rfl) ?_
  refine aSims_c (i := 31) (s_iload_n hC dX7_cell_51 rfl rfl) ?_
  refine aSims_c (i := 32) (s_iadd hC dX7_cell_52 rfl rfl) ?_
  refine aSims_c (i := 33) (s_aload_n hC dX7_cell_53 rfl rfl) ?_
  refine aSims_c (i := 34) (s_get hC dX7_cell_54 rfl rfl w_880 rfl rfl inB7 (by decide)) ?_
  refine aSims_c (i := 35) (s_iload_n hC dX7_cell_57 rfl rfl) ?_
  refine aSims_c (i := 36) (s_iaload hC hX0 dX7_cell_58 rfl rfl) ?_
  refine aSims_c (i := 37) (s_if_ne hC dX7_cell_59 rfl rfl rfl) ?_
  refine aSims_c (i := 38) (s_iload_n hC dX7_cell_62 rfl rfl) ?_
  refine aSims_c (i := 39) (s_i2b hC dX7_cell_63 rfl rfl) ?_
  refine aSims_c (i := 40) (s_goto hC dX7_cell_64 rfl rfl) ?_
  refine aSims_c (i := 41) (s_aload_n hC dX7_cell_67 rfl rfl) ?_
  refine aSims_c (i := 42) (s_get hC dX7_cell_68 rfl rfl w_880 rfl rfl inB7 (by decide)) ?_
  refine aSims_c (i := 43) (s_iload_n hC dX7_cell_71 rfl rfl) ?_
  refine aSims_c (i := 44) (s_iaload hC hX0 dX7_cell_72 rfl rfl) ?_
  refine aSims_c (i := 45) (s_iconst hC dX7_cell_73 rfl rfl rfl) ?_
  refine aSims_c (i := 46) (s_icmp_ne hC dX7_cell_74 rfl rfl rfl) ?_
  refine aSims_c (i := 47) (s_iload_n hC dX7_cell_77 rfl rfl) ?_
  refine aSims_c (i := 48) (s_i2s hC dX7_cell_78 rfl rfl) ?_
  refine aSims_c (i := 49) (s_goto hC dX7_cell_79 rfl rfl) ?_
  refine aSims_c (i := 50) (s_iload_n hC dX7_cell_82 rfl rfl) ?_
  refine aSims_c (i := 51) (s_iastore hC dX7_cell_83 rfl rfl) ?_
  refine aSims_c (i := 52) (s_iconst hC dX7_cell_84 rfl rfl rfl) ?_
  refine aSims_c (i := 53) (s_iret hC dX7_cell_85 rfl hr hlk nar_qI) ?_
  exact aSims_n
set_option maxHeartbeats 4000000 in
set_option maxRecDepth 20000 in
theorem sm_X7_copy (hC : aC p s m args c cX7_copy 9 RX7 D cA ad bs n0 H0 X) (hF : ∀ ml, ml ≤ 41 → aFit R d ml) (hRm : 16 ≤ R.frames ∧ 1000 ≤ R.locals) (hE : aCalls l D cA ad bs X d E) (hr : meth.sig.returnType = (some .int)) (hlk : meth.locks = false) : aSims (fun f i => aSim p l e R s m args below meth c (aEnd below s args D cA ad bs n0 z0 rv hf) 9 D cA ad bs n0 z0 H0 (apc pc_X7_copy) rv hf E f i) (cd_X7_copy) 0 := by
  unfold cd_X7_copy
  refine aSims_c (i := 0) (s_iload_n hC dX7_copy_0 rfl rfl) ?_
  refine aSims_c (i := 1) (s_callS hC dX7_copy_1 rfl rfl (hE 209 _ _ _ _ rfl) (hF _ (by decide)) w_1328 w_1326 w_1327 w_109 (by decide +kernel)) ?_
  refine aSims_c (i := 2) (s_if_eq hC dX7_copy_4 rfl rfl rfl) ?_
  refine aSims_c (i := 3) (s_iload_n hC dX7_copy_7 rfl rfl) ?_
  refine aSims_c (i := 4) (s_callS hC dX7_copy_8 rfl rfl (hE 209 _ _ _ _ rfl) (hF _ (by decide)) w_1328 w_1326 w_1327 w_109 (by decide +kernel)) ?_
  refine aSims_c (i := 5) (s_if_ne hC dX7_copy_11 rfl rfl rfl) ?_
  refine aSims_c (i := 6) (s_bipush hC dX7_copy_14 rfl rfl rfl) ?_
  refine aSims_c (i := 7) (s_iret hC dX7_copy_16 rfl hr hlk nar_qI) ?_
  refine aSims_c (i := 8) (s_aload_n hC dX7_copy_17 rfl rfl) ?_
  refine aSims_c (i := 9) (s_get hC dX7_copy_18 rfl rfl w_879 rfl rfl inB7 (by decide)) ?_
  refine aSims_c (i := 10) (s_iload_n hC dX7_copy_21 rfl rfl) ?_
  refine aSims_c (i := 11) (s_baload hC dX7_copy_22 rfl rfl) ?_
  refine aSims_c (i := 12) (s_if_eq hC dX7_copy_23 rfl rfl rfl) ?_
  refine aSims_c (i := 13) (s_aload_n hC dX7_copy_26 rfl rfl) ?_
  refine aSims_c (i := 14) (s_get hC dX7_copy_27 rfl rfl w_879 rfl rfl inB7 (by decide)) ?_
  refine aSims_c (i := 15) (s_iload_n hC dX7_copy_30 rfl rfl) ?_
  refine aSims_c (i := 16) (s_baload hC dX7_copy_31 rfl rfl) ?_
  refine aSims_c (i := 17) (s_if_ne hC dX7_copy_32 rfl rfl rfl) ?_
  refine aSims_c (i := 18) (s_bipush hC dX7_copy_35 rfl rfl rfl) ?_
  refine aSims_c (i := 19) (s_iret hC dX7_copy_37 rfl hr hlk nar_qI) ?_
  refine aSims_c (i := 20) (s_aload_n hC dX7_copy_38 rfl rfl) ?_
  refine aSims_c (i := 21) (s_get hC dX7_copy_39 rfl rfl w_880 rfl rfl inB7 (by decide)) ?_
  refine aSims_c (i := 22) (s_iload_n hC dX7_copy_42 rfl rfl) ?_
  refine aSims_c (i := 23) (s_iaload hC hX0 dX7_copy_43 rfl rfl) ?_
  refine aSims_c (i := 24) (s_aload_n hC dX7_copy_44 rfl rfl) ?_
  refine aSims_c (i := 25) (s_get hC dX7_copy_45 rfl rfl w_880 rfl rfl inB7 (by decide)) ?_
  refine aSims_c (i := 26) (s_iload_n hC dX7_copy_48 rfl rfl) ?_
  refine aSims_c (i := 27) (s_iaload hC hX0 dX7_copy_49 rfl rfl) ?_
  refine aSims_c (i := 28) (s_icmp_eq hC dX7_copy_50 rfl rfl rfl) ?_
  refine aSims_c (i := 29) (s_bipush hC dX7_copy_53 rfl rfl rfl) ?_
  refine aSims_c (i := 30) (s_iret hC dX7_copy_55 rfl hr hlk nar_qI) ?_
  refine aSims_c (i := 31) (s_iload hC dX7_copy_56 rfl rfl) ?_
  refine aSims_c (i := 32) (s_if_lt hC dX7_copy_58 rfl rfl rfl) ?_
  refine aSims_c (i := 33) (s_iload_n hC dX7_copy_61 rfl rfl) ?_
  refine aSims_c (i := 34) (s_if_lt hC dX7_copy_62 rfl rfl rfl) ?_
  refine aSims_c (i := 35) (s_iload hC dX7_copy_65 rfl rfl) ?_
  refine aSims_c (i := 36) (s_if_lt hC dX7_copy_67 rfl rfl rfl) ?_
  refine aSims_c (i := 37) (s_iload_n hC dX7_copy_70 rfl rfl) ?_
  refine aSims_c (i := 38) (s_aload_n hC dX7_copy_71 rfl rfl) ?_
  refine aSims_c (i := 39) (s_get hC dX7_copy_72 rfl rfl w_881 rfl rfl inB7 (by decide)) ?_
  refine aSims_c (i := 40) (s_iload_n hC dX7_copy_75 rfl rfl) ?_
  refine aSims_c (i := 41) (s_iaload hC hX0 dX7_copy_76 rfl rfl) ?_
  refine aSims_c (i := 42) (s_iload hC dX7_copy_77 rfl rfl) ?_
  refine aSims_c (i := 43) (s_isub hC dX7_copy_79 rfl rfl) ?_
  refine aSims_c (i := 44) (s_icmp_gt hC dX7_copy_80 rfl rfl rfl) ?_
  refine aSims_c (i := 45) (s_iload hC dX7_copy_83 rfl rfl) ?_
  refine aSims_c (i := 46) (s_aload_n hC dX7_copy_85 rfl rfl) ?_
  refine aSims_c (i := 47) (s_get hC dX7_copy_86 rfl rfl w_881 rfl rfl inB7 (by decide)) ?_
  refine aSims_c (i := 48) (s_iload_n hC dX7_copy_89 rfl rfl) ?_
  refine aSims_c (i := 49) (s_iaload hC hX0 dX7_copy_90 rfl rfl) ?_
  refine aSims_c (i := 50) (s_iload hC dX7_copy_91 rfl rfl) ?_
  refine aSims_c (i := 51) (s_isub hC dX7_copy_93 rfl rfl) ?_
  refine aSims_c (i := 52) (s_icmp_le hC dX7_copy_94 rfl rfl rfl) ?_
  refine aSims_c (i := 53) (s_bipush hC dX7_copy_97 rfl rfl rfl) ?_
  refine aSims_c (i := 54) (s_iret hC dX7_copy_99 rfl hr hlk nar_qI) ?_
  refine aSims_c (i := 55) (s_iload_n hC dX7_copy_100 rfl rfl) ?_
  refine aSims_c (i := 56) (s_iload_n hC dX7_copy_101 rfl rfl) ?_
  refine aSims_c (i := 57) (s_icmp_ne hC dX7_copy_102 rfl rfl rfl) ?_
  refine aSims_c (i := 58) (s_iload_n hC dX7_copy_105 rfl rfl) ?_
  refine aSims_c (i := 59) (s_iload hC dX7_copy_106 rfl rfl) ?_
  refine aSims_c (i := 60) (s_icmp_ge hC dX7_copy_108 rfl rfl rfl) ?_
  refine aSims_c (i := 61) (s_iconst hC dX7_copy_111 rfl rfl rfl) ?_
  refine aSims_c (i := 62) (s_goto hC dX7_copy_112 rfl rfl) ?_
  refine aSims_c (i := 63) (s_iconst hC dX7_copy_115 rfl rfl rfl) ?_
  refine aSims_c (i := 64) (s_istore hC dX7_copy_116 rfl rfl) ?_
  refine aSims_c (i := 65) (s_iconst hC dX7_copy_118 rfl rfl rfl) ?_
  refine aSims_c (i := 66) (s_istore hC dX7_copy_119 rfl rfl) ?_
  refine aSims_c (i := 67) (s_iload hC dX7_copy_121 rfl rfl) ?_
  refine aSims_c (i := 68) (s_iload hC dX7_copy_123 rfl rfl) ?_
  refine aSims_c (i := 69) (s_icmp_ge hC dX7_copy_125 rfl rfl rfl) ?_
  refine aSims_c (i := 70) (s_iload hC dX7_copy_128 rfl rfl) ?_
  refine aSims_c (i := 71) (s_if_eq hC dX7_copy_130 rfl rfl rfl) ?_
  refine aSims_c (i := 72) (s_iload hC dX7_copy_133 rfl rfl) ?_
  refine aSims_c (i := 73) (s_iconst hC dX7_copy_135 rfl rfl rfl) ?_
  refine aSims_c (i := 74) (s_isub hC dX7_copy_136 rfl rfl) ?_
  refine aSims_c (i := 75) (s_iload hC dX7_copy_137 rfl rfl) ?_
  refine aSims_c (i := 76) (s_isub hC dX7_copy_139 rfl rfl) ?_
  refine aSims_c (i := 77) (s_goto hC dX7_copy_140 rfl rfl) ?_
  refine aSims_c (i := 78) (s_iload hC dX7_copy_143 rfl rfl) ?_
  refine aSims_c (i := 79) (s_istore hC dX7_copy_145 rfl rfl) ?_
  refine aSims_c (i := 80) (s_aload_n hC dX7_copy_147 rfl rfl) ?_
  refine aSims_c (i := 81) (s_get hC dX7_copy_148 rfl rfl w_882 rfl rfl inB7 (by decide)) ?_
  refine aSims_c (i := 82) (s_bipush hC dX7_copy_151 rfl rfl rfl) ?_
  refine aSims_c (i := 83) (s_iload_n hC dX7_copy_153 rfl rfl) ?_
  refine aSims_c (i := 84) (s_imul hC dX7_copy_154 rfl rfl) ?_
  refine aSims_c (i := 85) (s_iload hC dX7_copy_155 rfl rfl) ?_
  refine aSims_c (i := 86) (s_iadd hC dX7_copy_157 rfl rfl) ?_
  refine aSims_c (i := 87) (s_iload hC dX7_copy_158 rfl rfl) ?_
  refine aSims_c (i := 88) (s_iadd hC dX7_copy_160 rfl rfl) ?_
  refine aSims_c (i := 89) (s_aload_n hC dX7_copy_161 rfl rfl) ?_
  refine aSims_c (i := 90) (s_get hC dX7_copy_162 rfl rfl w_882 rfl rfl inB7 (by decide)) ?_
  refine aSims_c (i := 91) (s_bipush hC dX7_copy_165 rfl rfl rfl) ?_
  refine aSims_c (i := 92) (s_iload_n hC dX7_copy_167 rfl rfl) ?_
  refine aSims_c (i := 93) (s_imul hC dX7_copy_168 rfl rfl) ?_
  refine aSims_c (i := 94) (s_iload_n hC dX7_copy_169 rfl rfl) ?_
  refine aSims_c (i := 95) (s_iadd hC dX7_copy_170 rfl rfl) ?_
  refine aSims_c (i := 96) (s_iload hC dX7_copy_171 rfl rfl) ?_
  refine aSims_c (i := 97) (s_iadd hC dX7_copy_173 rfl rfl) ?_
  refine aSims_c (i := 98) (s_iaload hC hX0 dX7_copy_174 rfl rfl) ?_
  refine aSims_c (i := 99) (s_iastore hC dX7_copy_175 rfl rfl) ?_
  refine aSims_c (i := 100) (s_iinc hC dX7_copy_176 rfl rfl) ?_
  refine aSims_c (i := 101) (s_goto hC dX7_copy_179 rfl rfl) ?_
  refine aSims_c (i := 102) (s_iload hC dX7_copy_182 rfl rfl) ?_
  refine aSims_c (i := 103) (s_iret hC dX7_copy_184 rfl hr hlk nar_qI) ?_
  exact aSims_n
set_option maxHeartbeats 4000000 in
set_option maxRecDepth 20000 in
theorem sm_X7_learners (hC : aC p s m args c cX7_learners 8 RX7 D cA ad bs n0 H0 X) (hF : ∀ ml, ml ≤ 41 → aFit R d ml) (hRm : 16 ≤ R.frames ∧ 1000 ≤ R.locals) (hE : aCalls l D cA ad bs X d E) (hr : meth.sig.returnType = (some .int)) (hlk : meth.locks = false) : aSims (fun f i => aSim p l e R s m args below meth c (aEnd below s args D cA ad bs n0 z0 rv hf) 8 D cA ad bs n0 z0 H0 (apc pc_X7_learners) rv hf E f i) (cd_X7_learners) 0 := by
  unfold cd_X7_learners
  refine aSims_c (i := 0) (s_iload_n hC dX7_learners_0 rfl rfl) ?_
  refine aSims_c (i := 1) (s_callS hC dX7_learners_1 rfl rfl (hE 209 _ _ _ _ rfl) (hF _ (by decide)) w_1328 w_1326 w_1327 w_109 (by decide +kernel)) ?_
  refine aSims_c (i := 2) (s_if_eq hC dX7_learners_4 rfl rfl rfl) ?_
  refine aSims_c (i := 3) (s_iload_n hC dX7_learners_7 rfl rfl) ?_
  refine aSims_c (i := 4) (s_i2l hC dX7_learners_8 rfl rfl) ?_
  refine aSims_c (i := 5) (s_lconst hC dX7_learners_9 rfl rfl rfl) ?_
  refine aSims_c (i := 6) (s_ldc2 hC dX7_learners_10 w_1254 rfl rfl) ?_
  refine aSims_c (i := 7) (s_callS hC dX7_learners_13 rfl rfl (hE 111 _ _ _ _ rfl) (hF _ (by decide)) w_974 w_972 w_973 w_109 (by decide +kernel)) ?_
  refine aSims_c (i := 8) (s_if_eq hC dX7_learners_16 rfl rfl rfl) ?_
  refine aSims_c (i := 9) (s_iload hC dX7_learners_19 rfl rfl) ?_
  refine aSims_c (i := 10) (s_i2l hC dX7_learners_21 rfl rfl) ?_
  refine aSims_c (i := 11) (s_lconst hC dX7_learners_22 rfl rfl rfl) ?_
  refine aSims_c (i := 12) (s_ldc2 hC dX7_learners_23 w_1222 rfl rfl) ?_
  refine aSims_c (i := 13) (s_callS hC dX7_learners_26 rfl rfl (hE 111 _ _ _ _ rfl) (hF _ (by decide)) w_974 w_972 w_973 w_109 (by decide +kernel)) ?_
  refine aSims_c (i := 14) (s_if_ne hC dX7_learners_29 rfl rfl rfl) ?_
  refine aSims_c (i := 15) (s_bipush hC dX7_learners_32 rfl rfl rfl) ?_
  refine aSims_c (i := 16) (s_iret hC dX7_learners_34 rfl hr hlk nar_qI) ?_
  refine aSims_c (i := 17) (s_aload_n hC dX7_learners_35 rfl rfl) ?_
  refine aSims_c (i := 18) (s_get hC dX7_learners_36 rfl rfl w_879 rfl rfl inB7 (by decide)) ?_
  refine aSims_c (i := 19) (s_iload_n hC dX7_learners_39 rfl rfl) ?_
  refine aSims_c (i := 20) (s_baload hC dX7_learners_40 rfl rfl) ?_
  refine aSims_c (i := 21) (s_if_eq hC dX7_learners_41 rfl rfl rfl) ?_
  refine aSims_c (i := 22) (s_aload_n hC dX7_learners_44 rfl rfl) ?_
  refine aSims_c (i := 23) (s_get hC dX7_learners_45 rfl rfl w_880 rfl rfl inB7 (by decide)) ?_
  refine aSims_c (i := 24) (s_iload_n hC dX7_learners_48 rfl rfl) ?_
  refine aSims_c (i := 25) (s_iaload hC hX0 dX7_learners_49 rfl rfl) ?_
  refine aSims_c (i := 26) (s_iload_n hC dX7_learners_50 rfl rfl) ?_
  refine aSims_c (i := 27) (s_icmp_eq hC dX7_learners_51 rfl rfl rfl) ?_
  refine aSims_c (i := 28) (s_bipush hC dX7_learners_54 rfl rfl rfl) ?_
  refine aSims_c (i := 29) (s_iret hC dX7_learners_56 rfl hr hlk nar_qI) ?_
  refine aSims_c (i := 30) (s_aload_n hC dX7_learners_57 rfl rfl) ?_
  refine aSims_c (i := 31) (s_get hC dX7_learners_58 rfl rfl w_879 rfl rfl inB7 (by decide)) ?_
  refine aSims_c (i := 32) (s_iload_n hC dX7_learners_61 rfl rfl) ?_
  refine aSims_c (i := 33) (s_baload hC dX7_learners_62 rfl rfl) ?_
  refine aSims_c (i := 34) (s_if_ne hC dX7_learners_63 rfl rfl rfl) ?_
  refine aSims_c (i := 35) (s_bipush hC dX7_learners_66 rfl rfl rfl) ?_
  refine aSims_c (i := 36) (s_iret hC dX7_learners_68 rfl hr hlk nar_qI) ?_
  refine aSims_c (i := 37) (s_iconst hC dX7_learners_69 rfl rfl rfl) ?_
  refine aSims_c (i := 38) (s_istore hC dX7_learners_70 rfl rfl) ?_
  refine aSims_c (i := 39) (s_iconst hC dX7_learners_72 rfl rfl rfl) ?_
  refine aSims_c (i := 40) (s_istore hC dX7_learners_73 rfl rfl) ?_
  refine aSims_c (i := 41) (s_iload hC dX7_learners_75 rfl rfl) ?_
  refine aSims_c (i := 42) (s_iload hC dX7_learners_77 rfl rfl) ?_
  refine aSims_c (i := 43) (s_icmp_ge hC dX7_learners_79 rfl rfl rfl) ?_
  refine aSims_c (i := 44) (s_iload_n hC dX7_learners_82 rfl rfl) ?_
  refine aSims_c (i := 45) (s_if_lt hC dX7_learners_83 rfl rfl rfl) ?_
  refine aSims_c (i := 46) (s_iload_n hC dX7_learners_86 rfl rfl) ?_
  refine aSims_c (i := 47) (s_aload_n hC dX7_learners_87 rfl rfl) ?_
  refine aSims_c (i := 48) (s_get hC dX7_learners_88 rfl rfl w_881 rfl rfl inB7 (by decide)) ?_
  refine aSims_c (i := 49) (s_iload_n hC dX7_learners_91 rfl rfl) ?_
  refine aSims_c (i := 50) (s_iaload hC hX0 dX7_learners_92 rfl rfl) ?_
  refine aSims_c (i := 51) (s_iconst hC dX7_learners_93 rfl rfl rfl) ?_
  refine aSims_c (i := 52) (s_iload hC dX7_learners_94 rfl rfl) ?_
  refine aSims_c (i := 53) (s_imul hC dX7_learners_96 rfl rfl) ?_
  refine aSims_c (i := 54) (s_isub hC dX7_learners_97 rfl rfl) ?_
  refine aSims_c (i := 55) (s_iconst hC dX7_learners_98 rfl rfl rfl) ?_
  refine aSims_c (i := 56) (s_isub hC dX7_learners_99 rfl rfl) ?_
  refine aSims_c (i := 57) (s_icmp_le hC dX7_learners_100 rfl rfl rfl) ?_
  refine aSims_c (i := 58) (s_bipush hC dX7_learners_103 rfl rfl rfl) ?_
  refine aSims_c (i := 59) (s_iret hC dX7_learners_105 rfl hr hlk nar_qI) ?_
  refine aSims_c (i := 60) (s_bipush hC dX7_learners_106 rfl rfl rfl) ?_
  refine aSims_c (i := 61) (s_iload_n hC dX7_learners_108 rfl rfl) ?_
  refine aSims_c (i := 62) (s_imul hC dX7_learners_109 rfl rfl) ?_
  refine aSims_c (i := 63) (s_iload_n hC dX7_learners_110 rfl rfl) ?_
  refine aSims_c (i := 64) (s_iadd hC dX7_learners_111 rfl rfl) ?_
  refine aSims_c (i := 65) (s_iconst hC dX7_learners_112 rfl rfl rfl) ?_
  refine aSims_c (i := 66) (s_iload hC dX7_learners_113 rfl rfl) ?_
  refine aSims_c (i := 67) (s_imul hC dX7_learners_115 rfl rfl) ?_
  refine aSims_c (i := 68) (s_iadd hC dX7_learners_116 rfl rfl) ?_
  refine aSims_c (i := 69) (s_istore hC dX7_learners_117 rfl rfl) ?_
  refine aSims_c (i := 70) (s_iload hC dX7_learners_119 rfl rfl) ?_
  refine aSims_c (i := 71) (s_aload_n hC dX7_learners_121 rfl rfl) ?_
  refine aSims_c (i := 72) (s_aload_n hC dX7_learners_122 rfl rfl) ?_
  refine aSims_c (i := 73) (s_get hC dX7_learners_123 rfl rfl w_882 rfl rfl inB7 (by decide)) ?_
  refine aSims_c (i := 74) (s_iload hC dX7_learners_126 rfl rfl) ?_
  refine aSims_c (i := 75) (s_iaload hC hX0 dX7_learners_128 rfl rfl) ?_
  refine aSims_c (i := 76) (s_aload_n hC dX7_learners_129 rfl rfl) ?_
  refine aSims_c (i := 77) (s_get hC dX7_learners_130 rfl rfl w_882 rfl rfl inB7 (by decide)) ?_
  refine aSims_c (i := 78) (s_iload hC dX7_learners_133 rfl rfl) ?_
  refine aSims_c (i := 79) (s_iconst hC dX7_learners_135 rfl rfl rfl) ?_
  refine aSims_c (i := 80) (s_iadd hC dX7_learners_136 rfl rfl) ?_
  refine aSims_c (i := 81) (s_iaload hC hX0 dX7_learners_137 rfl rfl) ?_
  refine aSims_c (i := 82) (s_callV (n := 2) hC dX7_learners_138 rfl rfl (hE 122 _ _ _ _ rfl) (hF _ (by decide)) w_1221 w_1390 w_1219 w_1220 w_109 rfl (by decide +kernel)) ?_
  refine aSims_c (i := 83) (s_if_lt hC dX7_learners_141 rfl rfl rfl) ?_
  refine aSims_c (i := 84) (s_iconst hC dX7_learners_144 rfl rfl rfl) ?_
  refine aSims_c (i := 85) (s_goto hC dX7_learners_145 rfl rfl) ?_
  refine aSims_c (i := 86) (s_iconst hC dX7_learners_148 rfl rfl rfl) ?_
  refine aSims_c (i := 87) (s_iadd hC dX7_learners_149 rfl rfl) ?_
  refine aSims_c (i := 88) (s_istore hC dX7_learners_150 rfl rfl) ?_
  refine aSims_c (i := 89) (s_iinc hC dX7_learners_152 rfl rfl) ?_
  refine aSims_c (i := 90) (s_goto hC dX7_learners_155 rfl rfl) ?_
  refine aSims_c (i := 91) (s_iload hC dX7_learners_158 rfl rfl) ?_
  refine aSims_c (i := 92) (s_iret hC dX7_learners_160 rfl hr hlk nar_qI) ?_
  exact aSims_n
set_option maxHeartbeats 4000000 in
set_option maxRecDepth 20000 in
theorem sm_X7_over (hC : aC p s m args c cX7_over 1 RX7 D cA ad bs n0 H0 X) (hF : ∀ ml, ml ≤ 41 → aFit R d ml) (hRm : 16 ≤ R.frames ∧ 1000 ≤ R.locals) (hE : aCalls l D cA ad bs X d E) (hr : meth.sig.returnType = (some .int)) (hlk : meth.locks = false) : aSims (fun f i => aSim p l e R s m args below meth c (aEnd below s args D cA ad bs n0 z0 rv hf) 1 D cA ad bs n0 z0 H0 (apc pc_X7_over) rv hf E f i) (cd_X7_over) 0 := by
  unfold cd_X7_over
  refine aSims_c (i := 0) (s_iload_n hC dX7_over_0 rfl rfl) ?_
  refine aSims_c (i := 1) (s_if_ne hC dX7_over_1 rfl rfl rfl) ?_
  refine aSims_c (i := 2) (s_iconst hC dX7_over_4 rfl rfl rfl) ?_
  refine aSims_c (i := 3) (s_goto hC dX7_over_5 rfl rfl) ?_
  refine aSims_c (i := 4) (s_iload_n hC dX7_over_8 rfl rfl) ?_
  refine aSims_c (i := 5) (s_iconst hC dX7_over_9 rfl rfl rfl) ?_
  refine aSims_c (i := 6) (s_icmp_ne hC dX7_over_10 rfl rfl rfl) ?_
  refine aSims_c (i := 7) (s_iconst hC dX7_over_13 rfl rfl rfl) ?_
  refine aSims_c (i := 8) (s_goto hC dX7_over_14 rfl rfl) ?_
  refine aSims_c (i := 9) (s_iload_n hC dX7_over_17 rfl rfl) ?_
  refine aSims_c (i := 10) (s_iconst hC dX7_over_18 rfl rfl rfl) ?_
  refine aSims_c (i := 11) (s_icmp_ne hC dX7_over_19 rfl rfl rfl) ?_
  refine aSims_c (i := 12) (s_iconst hC dX7_over_22 rfl rfl rfl) ?_
  refine aSims_c (i := 13) (s_goto hC dX7_over_23 rfl rfl) ?_
  refine aSims_c (i := 14) (s_iconst hC dX7_over_26 rfl rfl rfl) ?_
  refine aSims_c (i := 15) (s_iret hC dX7_over_27 rfl hr hlk nar_qI) ?_
  exact aSims_n
set_option maxHeartbeats 4000000 in
set_option maxRecDepth 20000 in
theorem sm_X7_taken (hC : aC p s m args c cX7_taken 4 RX7 D cA ad bs n0 H0 X) (hF : ∀ ml, ml ≤ 41 → aFit R d ml) (hRm : 16 ≤ R.frames ∧ 1000 ≤ R.locals) (hE : aCalls l D cA ad bs X d E) (hr : meth.sig.returnType = (some .int)) (hlk : meth.locks = false) : aSims (fun f i => aSim p l e R s m args below meth c (aEnd below s args D cA ad bs n0 z0 rv hf) 4 D cA ad bs n0 z0 H0 (apc pc_X7_taken) rv hf E f i) (cd_X7_taken) 0 := by
  unfold cd_X7_taken
  refine aSims_c (i := 0) (s_iload_n hC dX7_taken_0 rfl rfl) ?_
  refine aSims_c (i := 1) (s_i2l hC dX7_taken_1 rfl rfl) ?_
  refine aSims_c (i := 2) (s_lconst hC dX7_taken_2 rfl rfl rfl) ?_
  refine aSims_c (i := 3) (s_ldc2 hC dX7_taken_3 w_1222 rfl rfl) ?_
  refine aSims_c (i := 4) (s_callS hC dX7_taken_6 rfl rfl (hE 111 _ _ _ _ rfl) (hF _ (by decide)) w_974 w_972 w_973 w_109 (by decide +kernel)) ?_
  refine aSims_c (i := 5) (s_if_ne hC dX7_taken_9 rfl rfl rfl) ?_
  refine aSims_c (i := 6) (s_bipush hC dX7_taken_12 rfl rfl rfl) ?_
  refine aSims_c (i := 7) (s_iret hC dX7_taken_14 rfl hr hlk nar_qI) ?_
  refine aSims_c (i := 8) (s_aload_n hC dX7_taken_15 rfl rfl) ?_
  refine aSims_c (i := 9) (s_iload_n hC dX7_taken_16 rfl rfl) ?_
  refine aSims_c (i := 10) (s_callV (n := 1) hC dX7_taken_17 rfl rfl (hE 115 _ _ _ _ rfl) (hF _ (by decide)) w_988 w_985 w_987 w_30 w_109 rfl (by decide +kernel)) ?_
  refine aSims_c (i := 11) (s_if_ne hC dX7_taken_20 rfl rfl rfl) ?_
  refine aSims_c (i := 12) (s_bipush hC dX7_taken_23 rfl rfl rfl) ?_
  refine aSims_c (i := 13) (s_iret hC dX7_taken_25 rfl hr hlk nar_qI) ?_
  refine aSims_c (i := 14) (s_aload_n hC dX7_taken_26 rfl rfl) ?_
  refine aSims_c (i := 15) (s_get hC dX7_taken_27 rfl rfl w_851 rfl rfl inB7 (by decide)) ?_
  refine aSims_c (i := 16) (s_iload_n hC dX7_taken_30 rfl rfl) ?_
  refine aSims_c (i := 17) (s_iaload hC hX0 dX7_taken_31 rfl rfl) ?_
  refine aSims_c (i := 18) (s_istore_n hC dX7_taken_32 rfl rfl) ?_
  refine aSims_c (i := 19) (s_iload_n hC dX7_taken_33 rfl rfl) ?_
  refine aSims_c (i := 20) (s_iconst hC dX7_taken_34 rfl rfl rfl) ?_
  refine aSims_c (i := 21) (s_icmp_eq hC dX7_taken_35 rfl rfl rfl) ?_
  refine aSims_c (i := 22) (s_iload_n hC dX7_taken_38 rfl rfl) ?_
  refine aSims_c (i := 23) (s_iload_n hC dX7_taken_39 rfl rfl) ?_
  refine aSims_c (i := 24) (s_icmp_eq hC dX7_taken_40 rfl rfl rfl) ?_
  refine aSims_c (i := 25) (s_iload_n hC dX7_taken_43 rfl rfl) ?_
  refine aSims_c (i := 26) (s_callS hC dX7_taken_44 rfl rfl (hE 214 _ _ _ _ rfl) (hF _ (by decide)) w_1397 w_1395 w_1396 w_109 (by decide +kernel)) ?_
  refine aSims_c (i := 27) (s_istore_n hC dX7_taken_47 rfl rfl) ?_
  refine aSims_c (i := 28) (s_goto hC dX7_taken_48 rfl rfl) ?_
  refine aSims_c (i := 29) (s_iload_n hC dX7_taken_51 rfl rfl) ?_
  refine aSims_c (i := 30) (s_iload_n hC dX7_taken_52 rfl rfl) ?_
  refine aSims_c (i := 31) (s_icmp_ne hC dX7_taken_53 rfl rfl rfl) ?_
  refine aSims_c (i := 32) (s_aload_n hC dX7_taken_56 rfl rfl) ?_
  refine aSims_c (i := 33) (s_get hC dX7_taken_57 rfl rfl w_852 rfl rfl inB7 (by decide)) ?_
  refine aSims_c (i := 34) (s_iload_n hC dX7_taken_60 rfl rfl) ?_
  refine aSims_c (i := 35) (s_iaload hC hX0 dX7_taken_61 rfl rfl) ?_
  refine aSims_c (i := 36) (s_goto hC dX7_taken_62 rfl rfl) ?_
  refine aSims_c (i := 37) (s_bipush hC dX7_taken_65 rfl rfl rfl) ?_
  refine aSims_c (i := 38) (s_iret hC dX7_taken_67 rfl hr hlk nar_qI) ?_
  exact aSims_n
set_option maxHeartbeats 4000000 in
set_option maxRecDepth 20000 in
theorem sm_J0_length_8abf5 (hC : aC p s m args c cJ0_length_8abf5 1 RJ0 D cA ad bs n0 H0 X) (hF : ∀ ml, ml ≤ 41 → aFit R d ml) (hRm : 16 ≤ R.frames ∧ 1000 ≤ R.locals) (hE : aCalls l D cA ad bs X d E) (hr : meth.sig.returnType = (some .int)) (hlk : meth.locks = false) : aSims (fun f i => aSim p l e R s m args below meth c (aEnd below s args D cA ad bs n0 z0 rv hf) 1 D cA ad bs n0 z0 H0 (apc pc_J0_length_8abf5) rv hf E f i) (cd_J0_length_8abf5) 0 := by
  unfold cd_J0_length_8abf5
  refine aSims_c (i := 0) (s_aload_n hC dJ0_length_8abf5_0 rfl rfl) ?_
  refine aSims_c (i := 1) (s_sval hC dJ0_length_8abf5_1 rfl rfl w_1398) ?_
  refine aSims_c (i := 2) (s_blen hC dJ0_length_8abf5_4 rfl rfl) ?_
  refine aSims_c (i := 3) (s_aload_n hC dJ0_length_8abf5_5 rfl rfl) ?_
  refine aSims_c (i := 4) (s_callT (n := 0) hC hC.2.2.2.2.2.2.2.2.2.1 dJ0_length_8abf5_6 rfl rfl (hE 217 _ _ _ _ rfl) (hF _ (by decide)) w_237 w_234 w_235 w_236 w_101 (by decide +kernel)) ?_
  refine aSims_c (i := 5) (s_ishr hC dJ0_length_8abf5_9 rfl rfl) ?_
  refine aSims_c (i := 6) (s_iret hC dJ0_length_8abf5_10 rfl hr hlk nar_qI) ?_
  exact aSims_n
set_option maxHeartbeats 4000000 in
set_option maxRecDepth 20000 in
theorem sm_J0_coder_7d493 (hC : aC p s m args c cJ0_coder_7d493 1 RJ0 D cA ad bs n0 H0 X) (hF : ∀ ml, ml ≤ 41 → aFit R d ml) (hRm : 16 ≤ R.frames ∧ 1000 ≤ R.locals) (hE : aCalls l D cA ad bs X d E) (hr : meth.sig.returnType = (some .byte)) (hlk : meth.locks = false) : aSims (fun f i => aSim p l e R s m args below meth c (aEnd below s args D cA ad bs n0 z0 rv hf) 1 D cA ad bs n0 z0 H0 (apc pc_J0_coder_7d493) rv hf E f i) (cd_J0_coder_7d493) 0 := by
  unfold cd_J0_coder_7d493
  refine aSims_c (i := 0) (s_gets hC dJ0_coder_7d493_0 rfl rfl hC.2.2.2.2.2.2.2.2.1.2.2.2.1 w_238) ?_
  refine aSims_c (i := 1) (s_if_eq hC dJ0_coder_7d493_3 rfl rfl rfl) ?_
  refine aSims_c (i := 2) (s_aload_n hC dJ0_coder_7d493_6 rfl rfl) ?_
  refine aSims_c (i := 3) (s_scod hC dJ0_coder_7d493_7 rfl rfl w_1399) ?_
  refine aSims_c (i := 4) (s_goto hC dJ0_coder_7d493_10 rfl rfl) ?_
  refine aSims_c (i := 5) (s_iconst hC dJ0_coder_7d493_13 rfl rfl rfl) ?_
  refine aSims_c (i := 6) (s_iret hC dJ0_coder_7d493_14 rfl hr hlk nar_qB) ?_
  exact aSims_n
set_option maxHeartbeats 4000000 in
set_option maxRecDepth 20000 in
theorem sm_J0_charAt_5068e (hC : aC p s m args c cJ0_charAt_5068e 2 RJ0 D cA ad bs n0 H0 X) (hF : ∀ ml, ml ≤ 41 → aFit R d ml) (hRm : 16 ≤ R.frames ∧ 1000 ≤ R.locals) (hE : aCalls l D cA ad bs X d E) (hr : meth.sig.returnType = (some .char)) (hlk : meth.locks = false) : aSims (fun f i => aSim p l e R s m args below meth c (aEnd below s args D cA ad bs n0 z0 rv hf) 2 D cA ad bs n0 z0 H0 (apc pc_J0_charAt_5068e) rv hf E f i) (cd_J0_charAt_5068e) 0 := by
  unfold cd_J0_charAt_5068e
  refine aSims_c (i := 0) (s_aload_n hC dJ0_charAt_5068e_0 rfl rfl) ?_
  refine aSims_c (i := 1) (s_callT (n := 0) hC hC.2.2.2.2.2.2.2.2.2.1 dJ0_charAt_5068e_1 rfl rfl (hE 219 _ _ _ _ rfl) (hF _ (by decide)) w_247 w_244 w_245 w_246 w_101 (by decide +kernel)) ?_
  refine aSims_c (i := 2) (s_if_eq hC dJ0_charAt_5068e_4 rfl rfl rfl) ?_
  refine aSims_c (i := 3) (s_aload_n hC dJ0_charAt_5068e_7 rfl rfl) ?_
  refine aSims_c (i := 4) (s_sval hC dJ0_charAt_5068e_8 rfl rfl w_1398) ?_
  refine aSims_c (i := 5) (s_iload_n hC dJ0_charAt_5068e_11 rfl rfl) ?_
  refine aSims_c (i := 6) (s_callS hC dJ0_charAt_5068e_12 rfl rfl (hE 221 _ _ _ _ rfl) (hF _ (by decide)) w_250 w_248 w_249 w_102 (by decide +kernel)) ?_
  refine aSims_c (i := 7) (s_iret hC dJ0_charAt_5068e_15 rfl hr hlk nar_qC) ?_
  refine aSims_c (i := 8) (s_aload_n hC dJ0_charAt_5068e_16 rfl rfl) ?_
  refine aSims_c (i := 9) (s_sval hC dJ0_charAt_5068e_17 rfl rfl w_1398) ?_
  refine aSims_c (i := 10) (s_iload_n hC dJ0_charAt_5068e_20 rfl rfl) ?_
  refine aSims_c (i := 11) (s_bad rfl) ?_
  refine aSims_c (i := 12) (s_iret hC dJ0_charAt_5068e_24 rfl hr hlk nar_qC) ?_
  exact aSims_n
set_option maxHeartbeats 4000000 in
set_option maxRecDepth 20000 in
theorem sm_J0_isLatin1_aae02 (hC : aC p s m args c cJ0_isLatin1_aae02 1 RJ0 D cA ad bs n0 H0 X) (hF : ∀ ml, ml ≤ 41 → aFit R d ml) (hRm : 16 ≤ R.frames ∧ 1000 ≤ R.locals) (hE : aCalls l D cA ad bs X d E) (hr : meth.sig.returnType = (some .boolean)) (hlk : meth.locks = false) : aSims (fun f i => aSim p l e R s m args below meth c (aEnd below s args D cA ad bs n0 z0 rv hf) 1 D cA ad bs n0 z0 H0 (apc pc_J0_isLatin1_aae02) rv hf E f i) (cd_J0_isLatin1_aae02) 0 := by
  unfold cd_J0_isLatin1_aae02
  refine aSims_c (i := 0) (s_gets hC dJ0_isLatin1_aae02_0 rfl rfl hC.2.2.2.2.2.2.2.2.1.2.2.2.1 w_238) ?_
  refine aSims_c (i := 1) (s_if_eq hC dJ0_isLatin1_aae02_3 rfl rfl rfl) ?_
  refine aSims_c (i := 2) (s_aload_n hC dJ0_isLatin1_aae02_6 rfl rfl) ?_
  refine aSims_c (i := 3) (s_scod hC dJ0_isLatin1_aae02_7 rfl rfl w_1399) ?_
  refine aSims_c (i := 4) (s_if_ne hC dJ0_isLatin1_aae02_10 rfl rfl rfl) ?_
  refine aSims_c (i := 5) (s_iconst hC dJ0_isLatin1_aae02_13 rfl rfl rfl) ?_
  refine aSims_c (i := 6) (s_goto hC dJ0_isLatin1_aae02_14 rfl rfl) ?_
  refine aSims_c (i := 7) (s_iconst hC dJ0_isLatin1_aae02_17 rfl rfl rfl) ?_
  refine aSims_c (i := 8) (s_iret hC dJ0_isLatin1_aae02_18 rfl hr hlk nar_qZ) ?_
  exact aSims_n
set_option maxHeartbeats 4000000 in
set_option maxRecDepth 20000 in
theorem sm_J0_checkIndex_df160 (hC : aC p s m args c cJ0_checkIndex_df160 2 RJ0 D cA ad bs n0 H0 X) (hF : ∀ ml, ml ≤ 41 → aFit R d ml) (hRm : 16 ≤ R.frames ∧ 1000 ≤ R.locals) (hE : aCalls l D cA ad bs X d E) (hr : meth.sig.returnType = none) (hlk : meth.locks = false) : aSims (fun f i => aSim p l e R s m args below meth c (aEnd below s args D cA ad bs n0 z0 rv hf) 2 D cA ad bs n0 z0 H0 (apc pc_J0_checkIndex_df160) rv hf E f i) (cd_J0_checkIndex_df160 X) 0 := by
  unfold cd_J0_checkIndex_df160
  refine aSims_c (i := 0) (s_iload_n hC dJ0_checkIndex_df160_0 rfl rfl) ?_
  refine aSims_c (i := 1) (s_iload_n hC dJ0_checkIndex_df160_1 rfl rfl) ?_
  refine aSims_c (i := 2) (s_gets hC dJ0_checkIndex_df160_2 rfl rfl hC.2.2.2.2.2.2.2.2.1.2.2.2.2.1 w_254) ?_
  refine aSims_c (i := 3) (s_callS hC dJ0_checkIndex_df160_5 rfl rfl (hE 222 _ _ _ _ rfl) (hF _ (by decide)) w_258 w_256 w_257 w_103 (by decide +kernel)) ?_
  refine aSims_c (i := 4) (s_pop hC dJ0_checkIndex_df160_8 rfl rfl) ?_
  refine aSims_c (i := 5) (s_vret hC dJ0_checkIndex_df160_9 rfl hr hlk) ?_
  exact aSims_n
set_option maxHeartbeats 4000000 in
set_option maxRecDepth 20000 in
theorem sm_J1_charAt_3b067 (hC : aC p s m args c cJ1_charAt_3b067 2 RJ1 D cA ad bs n0 H0 X) (hF : ∀ ml, ml ≤ 41 → aFit R d ml) (hRm : 16 ≤ R.frames ∧ 1000 ≤ R.locals) (hE : aCalls l D cA ad bs X d E) (hr : meth.sig.returnType = (some .char)) (hlk : meth.locks = false) : aSims (fun f i => aSim p l e R s m args below meth c (aEnd below s args D cA ad bs n0 z0 rv hf) 2 D cA ad bs n0 z0 H0 (apc pc_J1_charAt_3b067) rv hf E f i) (cd_J1_charAt_3b067) 0 := by
  unfold cd_J1_charAt_3b067
  refine aSims_c (i := 0) (s_iload_n hC dJ1_charAt_3b067_0 rfl rfl) ?_
  refine aSims_c (i := 1) (s_aload_n hC dJ1_charAt_3b067_1 rfl rfl) ?_
  refine aSims_c (i := 2) (s_blen hC dJ1_charAt_3b067_2 rfl rfl) ?_
  refine aSims_c (i := 3) (s_callS hC dJ1_charAt_3b067_3 rfl rfl (hE 220 _ _ _ _ rfl) (hF _ (by decide)) w_253 w_251 w_252 w_101 (by decide +kernel)) ?_
  refine aSims_c (i := 4) (s_aload_n hC dJ1_charAt_3b067_6 rfl rfl) ?_
  refine aSims_c (i := 5) (s_iload_n hC dJ1_charAt_3b067_7 rfl rfl) ?_
  refine aSims_c (i := 6) (s_bald hC dJ1_charAt_3b067_8 rfl rfl) ?_
  refine aSims_c (i := 7) (s_sipush hC dJ1_charAt_3b067_9 rfl rfl rfl) ?_
  refine aSims_c (i := 8) (s_iand hC dJ1_charAt_3b067_12 rfl rfl) ?_
  refine aSims_c (i := 9) (s_i2c hC dJ1_charAt_3b067_13 rfl rfl) ?_
  refine aSims_c (i := 10) (s_iret hC dJ1_charAt_3b067_14 rfl hr hlk nar_qC) ?_
  exact aSims_n
set_option maxHeartbeats 4000000 in
set_option maxRecDepth 20000 in
theorem sm_J3_checkIndex_8e157 (hC : aC p s m args c cJ3_checkIndex_8e157 3 RJ3 D cA ad bs n0 H0 X) (hF : ∀ ml, ml ≤ 41 → aFit R d ml) (hRm : 16 ≤ R.frames ∧ 1000 ≤ R.locals) (hE : aCalls l D cA ad bs X d E) (hr : meth.sig.returnType = (some .int)) (hlk : meth.locks = false) : aSims (fun f i => aSim p l e R s m args below meth c (aEnd below s args D cA ad bs n0 z0 rv hf) 3 D cA ad bs n0 z0 H0 (apc pc_J3_checkIndex_8e157) rv hf E f i) (cd_J3_checkIndex_8e157) 0 := by
  unfold cd_J3_checkIndex_8e157
  refine aSims_c (i := 0) (s_iload_n hC dJ3_checkIndex_8e157_0 rfl rfl) ?_
  refine aSims_c (i := 1) (s_if_lt hC dJ3_checkIndex_8e157_1 rfl rfl rfl) ?_
  refine aSims_c (i := 2) (s_iload_n hC dJ3_checkIndex_8e157_4 rfl rfl) ?_
  refine aSims_c (i := 3) (s_iload_n hC dJ3_checkIndex_8e157_5 rfl rfl) ?_
  refine aSims_c (i := 4) (s_icmp_lt hC dJ3_checkIndex_8e157_6 rfl rfl rfl) ?_
  refine aSims_c (i := 5) (s_aload_n hC dJ3_checkIndex_8e157_9 rfl rfl) ?_
  refine aSims_c (i := 6) (s_iload_n hC dJ3_checkIndex_8e157_10 rfl rfl) ?_
  refine aSims_c (i := 7) (s_iload_n hC dJ3_checkIndex_8e157_11 rfl rfl) ?_
  refine aSims_c (i := 8) (s_bad rfl) ?_
  refine aSims_c (i := 9) (s_bad rfl) ?_
  refine aSims_c (i := 10) (s_iload_n hC dJ3_checkIndex_8e157_16 rfl rfl) ?_
  refine aSims_c (i := 11) (s_iret hC dJ3_checkIndex_8e157_17 rfl hr hlk nar_qI) ?_
  exact aSims_n
set_option maxHeartbeats 4000000 in
set_option maxRecDepth 20000 in
theorem sm_J7_fill_53178 (hC : aC p s m args c cJ7_fill_53178 4 RJ7 D cA ad bs n0 H0 X) (hF : ∀ ml, ml ≤ 41 → aFit R d ml) (hRm : 16 ≤ R.frames ∧ 1000 ≤ R.locals) (hE : aCalls l D cA ad bs X d E) (hr : meth.sig.returnType = none) (hlk : meth.locks = false) : aSims (fun f i => aSim p l e R s m args below meth c (aEnd below s args D cA ad bs n0 z0 rv hf) 4 D cA ad bs n0 z0 H0 (apc pc_J7_fill_53178) rv hf E f i) (cd_J7_fill_53178) 0 := by
  unfold cd_J7_fill_53178
  refine aSims_c (i := 0) (s_iconst hC dJ7_fill_53178_0 rfl rfl rfl) ?_
  refine aSims_c (i := 1) (s_istore_n hC dJ7_fill_53178_1 rfl rfl) ?_
  refine aSims_c (i := 2) (s_aload_n hC dJ7_fill_53178_2 rfl rfl) ?_
  refine aSims_c (i := 3) (s_arraylength hC hX0 dJ7_fill_53178_3 rfl rfl) ?_
  refine aSims_c (i := 4) (s_istore_n hC dJ7_fill_53178_4 rfl rfl) ?_
  refine aSims_c (i := 5) (s_iload_n hC dJ7_fill_53178_5 rfl rfl) ?_
  refine aSims_c (i := 6) (s_iload_n hC dJ7_fill_53178_6 rfl rfl) ?_
  refine aSims_c (i := 7) (s_icmp_ge hC dJ7_fill_53178_7 rfl rfl rfl) ?_
  refine aSims_c (i := 8) (s_aload_n hC dJ7_fill_53178_10 rfl rfl) ?_
  refine aSims_c (i := 9) (s_iload_n hC dJ7_fill_53178_11 rfl rfl) ?_
  refine aSims_c (i := 10) (s_iload_n hC dJ7_fill_53178_12 rfl rfl) ?_
  refine aSims_c (i := 11) (s_iastore hC dJ7_fill_53178_13 rfl rfl) ?_
  refine aSims_c (i := 12) (s_iinc hC dJ7_fill_53178_14 rfl rfl) ?_
  refine aSims_c (i := 13) (s_goto hC dJ7_fill_53178_17 rfl rfl) ?_
  refine aSims_c (i := 14) (s_vret hC dJ7_fill_53178_20 rfl hr hlk) ?_
  exact aSims_n
end SIM
