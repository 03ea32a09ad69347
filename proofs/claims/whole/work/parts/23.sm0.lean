/-! each method's instructions are simulated (written by wip/whole/gen.py) -/
theorem dX0_init_0 : decode cX0_init 0 = .ok (.aload_n 0, 1) := by decide +kernel
theorem dX0_init_1 : decode cX0_init 1 = .ok (.invokespecial 3, 3) := by decide +kernel
theorem dX0_init_4 : decode cX0_init 4 = .ok (.aload_n 0, 1) := by decide +kernel
theorem dX0_init_5 : decode cX0_init 5 = .ok (.bipush 8, 2) := by decide +kernel
theorem dX0_init_7 : decode cX0_init 7 = .ok (.newarray .int, 2) := by decide +kernel
theorem dX0_init_9 : decode cX0_init 9 = .ok (.putfield 9, 3) := by decide +kernel
theorem dX0_init_12 : decode cX0_init 12 = .ok (.return_, 1) := by decide +kernel
theorem dX0_begin_0 : decode cX0_begin 0 = .ok (.aload_n 0, 1) := by decide +kernel
theorem dX0_begin_1 : decode cX0_begin 1 = .ok (.iload_n 1, 1) := by decide +kernel
theorem dX0_begin_2 : decode cX0_begin 2 = .ok (.putfield 15, 3) := by decide +kernel
theorem dX0_begin_5 : decode cX0_begin 5 = .ok (.aload_n 0, 1) := by decide +kernel
theorem dX0_begin_6 : decode cX0_begin 6 = .ok (.iload_n 2, 1) := by decide +kernel
theorem dX0_begin_7 : decode cX0_begin 7 = .ok (.putfield 19, 3) := by decide +kernel
theorem dX0_begin_10 : decode cX0_begin 10 = .ok (.aload_n 0, 1) := by decide +kernel
theorem dX0_begin_11 : decode cX0_begin 11 = .ok (.iconst 0, 1) := by decide +kernel
theorem dX0_begin_12 : decode cX0_begin 12 = .ok (.putfield 22, 3) := by decide +kernel
theorem dX0_begin_15 : decode cX0_begin 15 = .ok (.aload_n 0, 1) := by decide +kernel
theorem dX0_begin_16 : decode cX0_begin 16 = .ok (.iconst 0, 1) := by decide +kernel
theorem dX0_begin_17 : decode cX0_begin 17 = .ok (.putfield 25, 3) := by decide +kernel
theorem dX0_begin_20 : decode cX0_begin 20 = .ok (.aload_n 0, 1) := by decide +kernel
theorem dX0_begin_21 : decode cX0_begin 21 = .ok (.getfield 9, 3) := by decide +kernel
theorem dX0_begin_24 : decode cX0_begin 24 = .ok (.iconst 0, 1) := by decide +kernel
theorem dX0_begin_25 : decode cX0_begin 25 = .ok (.invokestatic 28, 3) := by decide +kernel
theorem dX0_begin_28 : decode cX0_begin 28 = .ok (.return_, 1) := by decide +kernel
theorem dX0_become_0 : decode cX0_become 0 = .ok (.aload_n 0, 1) := by decide +kernel
theorem dX0_become_1 : decode cX0_become 1 = .ok (.aload_n 1, 1) := by decide +kernel
theorem dX0_become_2 : decode cX0_become 2 = .ok (.getfield 15, 3) := by decide +kernel
theorem dX0_become_5 : decode cX0_become 5 = .ok (.putfield 15, 3) := by decide +kernel
theorem dX0_become_8 : decode cX0_become 8 = .ok (.aload_n 0, 1) := by decide +kernel
theorem dX0_become_9 : decode cX0_become 9 = .ok (.aload_n 1, 1) := by decide +kernel
theorem dX0_become_10 : decode cX0_become 10 = .ok (.getfield 19, 3) := by decide +kernel
theorem dX0_become_13 : decode cX0_become 13 = .ok (.putfield 19, 3) := by decide +kernel
theorem dX0_become_16 : decode cX0_become 16 = .ok (.aload_n 0, 1) := by decide +kernel
theorem dX0_become_17 : decode cX0_become 17 = .ok (.aload_n 1, 1) := by decide +kernel
theorem dX0_become_18 : decode cX0_become 18 = .ok (.getfield 22, 3) := by decide +kernel
theorem dX0_become_21 : decode cX0_become 21 = .ok (.putfield 22, 3) := by decide +kernel
theorem dX0_become_24 : decode cX0_become 24 = .ok (.aload_n 0, 1) := by decide +kernel
theorem dX0_become_25 : decode cX0_become 25 = .ok (.aload_n 1, 1) := by decide +kernel
theorem dX0_become_26 : decode cX0_become 26 = .ok (.getfield 25, 3) := by decide +kernel
theorem dX0_become_29 : decode cX0_become 29 = .ok (.putfield 25, 3) := by decide +kernel
theorem dX0_become_32 : decode cX0_become 32 = .ok (.aload_n 1, 1) := by decide +kernel
theorem dX0_become_33 : decode cX0_become 33 = .ok (.getfield 9, 3) := by decide +kernel
theorem dX0_become_36 : decode cX0_become 36 = .ok (.iconst 0, 1) := by decide +kernel
theorem dX0_become_37 : decode cX0_become 37 = .ok (.aload_n 0, 1) := by decide +kernel
theorem dX0_become_38 : decode cX0_become 38 = .ok (.getfield 9, 3) := by decide +kernel
theorem dX0_become_41 : decode cX0_become 41 = .ok (.iconst 0, 1) := by decide +kernel
theorem dX0_become_42 : decode cX0_become 42 = .ok (.bipush 8, 2) := by decide +kernel
theorem dX0_become_44 : decode cX0_become 44 = .ok (.invokestatic 34, 3) := by decide +kernel
theorem dX0_become_47 : decode cX0_become 47 = .ok (.return_, 1) := by decide +kernel
theorem dX0_valueOf_0 : decode cX0_valueOf 0 = .ok (.iload_n 1, 1) := by decide +kernel
theorem dX0_valueOf_1 : decode cX0_valueOf 1 = .ok (.tableswitch 51 2 5 #[31, 36, 41, 46], 31) := by decide +kernel
theorem dX0_valueOf_32 : decode cX0_valueOf 32 = .ok (.aload_n 0, 1) := by decide +kernel
theorem dX0_valueOf_33 : decode cX0_valueOf 33 = .ok (.getfield 19, 3) := by decide +kernel
theorem dX0_valueOf_36 : decode cX0_valueOf 36 = .ok (.ireturn, 1) := by decide +kernel
theorem dX0_valueOf_37 : decode cX0_valueOf 37 = .ok (.aload_n 0, 1) := by decide +kernel
theorem dX0_valueOf_38 : decode cX0_valueOf 38 = .ok (.getfield 22, 3) := by decide +kernel
theorem dX0_valueOf_41 : decode cX0_valueOf 41 = .ok (.ireturn, 1) := by decide +kernel
theorem dX0_valueOf_42 : decode cX0_valueOf 42 = .ok (.aload_n 0, 1) := by decide +kernel
theorem dX0_valueOf_43 : decode cX0_valueOf 43 = .ok (.getfield 25, 3) := by decide +kernel
theorem dX0_valueOf_46 : decode cX0_valueOf 46 = .ok (.ireturn, 1) := by decide +kernel
theorem dX0_valueOf_47 : decode cX0_valueOf 47 = .ok (.aload_n 0, 1) := by decide +kernel
theorem dX0_valueOf_48 : decode cX0_valueOf 48 = .ok (.getfield 15, 3) := by decide +kernel
theorem dX0_valueOf_51 : decode cX0_valueOf 51 = .ok (.ireturn, 1) := by decide +kernel
theorem dX0_valueOf_52 : decode cX0_valueOf 52 = .ok (.iload_n 1, 1) := by decide +kernel
theorem dX0_valueOf_53 : decode cX0_valueOf 53 = .ok (.bipush 10, 2) := by decide +kernel
theorem dX0_valueOf_55 : decode cX0_valueOf 55 = .ok (.if_icmp .lt 25, 3) := by decide +kernel
theorem dX0_valueOf_58 : decode cX0_valueOf 58 = .ok (.iload_n 1, 1) := by decide +kernel
theorem dX0_valueOf_59 : decode cX0_valueOf 59 = .ok (.bipush 10, 2) := by decide +kernel
theorem dX0_valueOf_61 : decode cX0_valueOf 61 = .ok (.isub, 1) := by decide +kernel
theorem dX0_valueOf_62 : decode cX0_valueOf 62 = .ok (.invokestatic 40, 3) := by decide +kernel
theorem dX0_valueOf_65 : decode cX0_valueOf 65 = .ok (.ifCond .eq 15, 3) := by decide +kernel
theorem dX0_valueOf_68 : decode cX0_valueOf 68 = .ok (.aload_n 0, 1) := by decide +kernel
theorem dX0_valueOf_69 : decode cX0_valueOf 69 = .ok (.getfield 9, 3) := by decide +kernel
theorem dX0_valueOf_72 : decode cX0_valueOf 72 = .ok (.iload_n 1, 1) := by decide +kernel
theorem dX0_valueOf_73 : decode cX0_valueOf 73 = .ok (.bipush 10, 2) := by decide +kernel
theorem dX0_valueOf_75 : decode cX0_valueOf 75 = .ok (.isub, 1) := by decide +kernel
theorem dX0_valueOf_76 : decode cX0_valueOf 76 = .ok (.iaload, 1) := by decide +kernel
theorem dX0_valueOf_77 : decode cX0_valueOf 77 = .ok (.goto 5, 3) := by decide +kernel
theorem dX0_valueOf_80 : decode cX0_valueOf 80 = .ok (.bipush (-2), 2) := by decide +kernel
theorem dX0_valueOf_82 : decode cX0_valueOf 82 = .ok (.ireturn, 1) := by decide +kernel
theorem dX0_put_0 : decode cX0_put 0 = .ok (.aload_n 0, 1) := by decide +kernel
theorem dX0_put_1 : decode cX0_put 1 = .ok (.iload_n 1, 1) := by decide +kernel
theorem dX0_put_2 : decode cX0_put 2 = .ok (.invokevirtual 44, 3) := by decide +kernel
theorem dX0_put_5 : decode cX0_put 5 = .ok (.istore_n 3, 1) := by decide +kernel
theorem dX0_put_6 : decode cX0_put 6 = .ok (.iload_n 3, 1) := by decide +kernel
theorem dX0_put_7 : decode cX0_put 7 = .ok (.bipush (-2), 2) := by decide +kernel
theorem dX0_put_9 : decode cX0_put 9 = .ok (.if_icmp .eq 15, 3) := by decide +kernel
theorem dX0_put_12 : decode cX0_put 12 = .ok (.iload_n 2, 1) := by decide +kernel
theorem dX0_put_13 : decode cX0_put 13 = .ok (.ifCond .lt 11, 3) := by decide +kernel
theorem dX0_put_16 : decode cX0_put 16 = .ok (.iload_n 2, 1) := by decide +kernel
theorem dX0_put_17 : decode cX0_put 17 = .ok (.iload_n 1, 1) := by decide +kernel
theorem dX0_put_18 : decode cX0_put 18 = .ok (.invokestatic 48, 3) := by decide +kernel
theorem dX0_put_21 : decode cX0_put 21 = .ok (.if_icmp .le 6, 3) := by decide +kernel
theorem dX0_put_24 : decode cX0_put 24 = .ok (.bipush (-2), 2) := by decide +kernel
theorem dX0_put_26 : decode cX0_put 26 = .ok (.ireturn, 1) := by decide +kernel
theorem dX0_put_27 : decode cX0_put 27 = .ok (.iload_n 1, 1) := by decide +kernel
theorem dX0_put_28 : decode cX0_put 28 = .ok (.iconst 2, 1) := by decide +kernel
theorem dX0_put_29 : decode cX0_put 29 = .ok (.if_icmp .ne 11, 3) := by decide +kernel
theorem dX0_put_32 : decode cX0_put 32 = .ok (.aload_n 0, 1) := by decide +kernel
theorem dX0_put_33 : decode cX0_put 33 = .ok (.iload_n 2, 1) := by decide +kernel
theorem dX0_put_34 : decode cX0_put 34 = .ok (.putfield 19, 3) := by decide +kernel
theorem dX0_put_37 : decode cX0_put 37 = .ok (.goto 55, 3) := by decide +kernel
theorem dX0_put_40 : decode cX0_put 40 = .ok (.iload_n 1, 1) := by decide +kernel
theorem dX0_put_41 : decode cX0_put 41 = .ok (.iconst 3, 1) := by decide +kernel
theorem dX0_put_42 : decode cX0_put 42 = .ok (.if_icmp .ne 11, 3) := by decide +kernel
theorem dX0_put_45 : decode cX0_put 45 = .ok (.aload_n 0, 1) := by decide +kernel
theorem dX0_put_46 : decode cX0_put 46 = .ok (.iload_n 2, 1) := by decide +kernel
theorem dX0_put_47 : decode cX0_put 47 = .ok (.putfield 22, 3) := by decide +kernel
theorem dX0_put_50 : decode cX0_put 50 = .ok (.goto 42, 3) := by decide +kernel
theorem dX0_put_53 : decode cX0_put 53 = .ok (.iload_n 1, 1) := by decide +kernel
theorem dX0_put_54 : decode cX0_put 54 = .ok (.iconst 4, 1) := by decide +kernel
theorem dX0_put_55 : decode cX0_put 55 = .ok (.if_icmp .ne 11, 3) := by decide +kernel
theorem dX0_put_58 : decode cX0_put 58 = .ok (.aload_n 0, 1) := by decide +kernel
theorem dX0_put_59 : decode cX0_put 59 = .ok (.iload_n 2, 1) := by decide +kernel
theorem dX0_put_60 : decode cX0_put 60 = .ok (.putfield 25, 3) := by decide +kernel
theorem dX0_put_63 : decode cX0_put 63 = .ok (.goto 29, 3) := by decide +kernel
theorem dX0_put_66 : decode cX0_put 66 = .ok (.iload_n 1, 1) := by decide +kernel
theorem dX0_put_67 : decode cX0_put 67 = .ok (.bipush 10, 2) := by decide +kernel
theorem dX0_put_69 : decode cX0_put 69 = .ok (.if_icmp .lt 23, 3) := by decide +kernel
theorem dX0_put_72 : decode cX0_put 72 = .ok (.iload_n 1, 1) := by decide +kernel
theorem dX0_put_73 : decode cX0_put 73 = .ok (.bipush 10, 2) := by decide +kernel
theorem dX0_put_75 : decode cX0_put 75 = .ok (.isub, 1) := by decide +kernel
theorem dX0_put_76 : decode cX0_put 76 = .ok (.invokestatic 40, 3) := by decide +kernel
theorem dX0_put_79 : decode cX0_put 79 = .ok (.ifCond .eq 13, 3) := by decide +kernel
theorem dX0_put_82 : decode cX0_put 82 = .ok (.aload_n 0, 1) := by decide +kernel
theorem dX0_put_83 : decode cX0_put 83 = .ok (.getfield 9, 3) := by decide +kernel
theorem dX0_put_86 : decode cX0_put 86 = .ok (.iload_n 1, 1) := by decide +kernel
theorem dX0_put_87 : decode cX0_put 87 = .ok (.bipush 10, 2) := by decide +kernel
theorem dX0_put_89 : decode cX0_put 89 = .ok (.isub, 1) := by decide +kernel
theorem dX0_put_90 : decode cX0_put 90 = .ok (.iload_n 2, 1) := by decide +kernel
theorem dX0_put_91 : decode cX0_put 91 = .ok (.iastore, 1) := by decide +kernel
theorem dX0_put_92 : decode cX0_put 92 = .ok (.iload_n 3, 1) := by decide +kernel
theorem dX0_put_93 : decode cX0_put 93 = .ok (.ireturn, 1) := by decide +kernel
theorem dX0_mostOf_0 : decode cX0_mostOf 0 = .ok (.iload_n 0, 1) := by decide +kernel
theorem dX0_mostOf_1 : decode cX0_mostOf 1 = .ok (.tableswitch 43 2 5 #[31, 34, 37, 41], 31) := by decide +kernel
theorem dX0_mostOf_32 : decode cX0_mostOf 32 = .ok (.bipush 9, 2) := by decide +kernel
theorem dX0_mostOf_34 : decode cX0_mostOf 34 = .ok (.ireturn, 1) := by decide +kernel
theorem dX0_mostOf_35 : decode cX0_mostOf 35 = .ok (.bipush 99, 2) := by decide +kernel
theorem dX0_mostOf_37 : decode cX0_mostOf 37 = .ok (.ireturn, 1) := by decide +kernel
theorem dX0_mostOf_38 : decode cX0_mostOf 38 = .ok (.sipush 999, 3) := by decide +kernel
theorem dX0_mostOf_41 : decode cX0_mostOf 41 = .ok (.ireturn, 1) := by decide +kernel
theorem dX0_mostOf_42 : decode cX0_mostOf 42 = .ok (.iconst (-1), 1) := by decide +kernel
theorem dX0_mostOf_43 : decode cX0_mostOf 43 = .ok (.ireturn, 1) := by decide +kernel
theorem dX0_mostOf_44 : decode cX0_mostOf 44 = .ok (.bipush 99, 2) := by decide +kernel
theorem dX0_mostOf_46 : decode cX0_mostOf 46 = .ok (.ireturn, 1) := by decide +kernel
theorem dX0_learnsOf_0 : decode cX0_learnsOf 0 = .ok (.iload_n 2, 1) := by decide +kernel
theorem dX0_learnsOf_1 : decode cX0_learnsOf 1 = .ok (.ifCond .ne 9, 3) := by decide +kernel
theorem dX0_learnsOf_4 : decode cX0_learnsOf 4 = .ok (.iconst 2, 1) := by decide +kernel
theorem dX0_learnsOf_5 : decode cX0_learnsOf 5 = .ok (.iload_n 1, 1) := by decide +kernel
theorem dX0_learnsOf_6 : decode cX0_learnsOf 6 = .ok (.imul, 1) := by decide +kernel
theorem dX0_learnsOf_7 : decode cX0_learnsOf 7 = .ok (.goto 4, 3) := by decide +kernel
theorem dX0_learnsOf_10 : decode cX0_learnsOf 10 = .ok (.iload_n 1, 1) := by decide +kernel
theorem dX0_learnsOf_11 : decode cX0_learnsOf 11 = .ok (.istore_n 3, 1) := by decide +kernel
theorem dX0_learnsOf_12 : decode cX0_learnsOf 12 = .ok (.iload_n 2, 1) := by decide +kernel
theorem dX0_learnsOf_13 : decode cX0_learnsOf 13 = .ok (.ifCond .ne 9, 3) := by decide +kernel
theorem dX0_learnsOf_16 : decode cX0_learnsOf 16 = .ok (.iload_n 1, 1) := by decide +kernel
theorem dX0_learnsOf_17 : decode cX0_learnsOf 17 = .ok (.iconst 2, 1) := by decide +kernel
theorem dX0_learnsOf_18 : decode cX0_learnsOf 18 = .ok (.idiv, 1) := by decide +kernel
theorem dX0_learnsOf_19 : decode cX0_learnsOf 19 = .ok (.goto 4, 3) := by decide +kernel
theorem dX0_learnsOf_22 : decode cX0_learnsOf 22 = .ok (.iload_n 1, 1) := by decide +kernel
theorem dX0_learnsOf_23 : decode cX0_learnsOf 23 = .ok (.istore 4, 2) := by decide +kernel
theorem dX0_learnsOf_25 : decode cX0_learnsOf 25 = .ok (.aload_n 0, 1) := by decide +kernel
theorem dX0_learnsOf_26 : decode cX0_learnsOf 26 = .ok (.getfield 15, 3) := by decide +kernel
theorem dX0_learnsOf_29 : decode cX0_learnsOf 29 = .ok (.tableswitch 75 1 5 #[35, 37, 40, 51, 69], 35) := by decide +kernel
theorem dX0_learnsOf_64 : decode cX0_learnsOf 64 = .ok (.iload_n 3, 1) := by decide +kernel
theorem dX0_learnsOf_65 : decode cX0_learnsOf 65 = .ok (.ireturn, 1) := by decide +kernel
theorem dX0_learnsOf_66 : decode cX0_learnsOf 66 = .ok (.iload 4, 2) := by decide +kernel
theorem dX0_learnsOf_68 : decode cX0_learnsOf 68 = .ok (.ireturn, 1) := by decide +kernel
theorem dX0_learnsOf_69 : decode cX0_learnsOf 69 = .ok (.iload_n 2, 1) := by decide +kernel
theorem dX0_learnsOf_70 : decode cX0_learnsOf 70 = .ok (.iconst 2, 1) := by decide +kernel
theorem dX0_learnsOf_71 : decode cX0_learnsOf 71 = .ok (.if_icmp .ne 7, 3) := by decide +kernel
theorem dX0_learnsOf_74 : decode cX0_learnsOf 74 = .ok (.iconst 0, 1) := by decide +kernel
theorem dX0_learnsOf_75 : decode cX0_learnsOf 75 = .ok (.goto 4, 3) := by decide +kernel
theorem dX0_learnsOf_78 : decode cX0_learnsOf 78 = .ok (.iload_n 3, 1) := by decide +kernel
theorem dX0_learnsOf_79 : decode cX0_learnsOf 79 = .ok (.ireturn, 1) := by decide +kernel
theorem dX0_learnsOf_80 : decode cX0_learnsOf 80 = .ok (.iload_n 2, 1) := by decide +kernel
theorem dX0_learnsOf_81 : decode cX0_learnsOf 81 = .ok (.iconst 1, 1) := by decide +kernel
theorem dX0_learnsOf_82 : decode cX0_learnsOf 82 = .ok (.if_icmp .ne 13, 3) := by decide +kernel
theorem dX0_learnsOf_85 : decode cX0_learnsOf 85 = .ok (.iload 4, 2) := by decide +kernel
theorem dX0_learnsOf_87 : decode cX0_learnsOf 87 = .ok (.aload_n 0, 1) := by decide +kernel
theorem dX0_learnsOf_88 : decode cX0_learnsOf 88 = .ok (.getfield 19, 3) := by decide +kernel
theorem dX0_learnsOf_91 : decode cX0_learnsOf 91 = .ok (.iadd, 1) := by decide +kernel
theorem dX0_learnsOf_92 : decode cX0_learnsOf 92 = .ok (.goto 5, 3) := by decide +kernel
theorem dX0_learnsOf_95 : decode cX0_learnsOf 95 = .ok (.iload 4, 2) := by decide +kernel
theorem dX0_learnsOf_97 : decode cX0_learnsOf 97 = .ok (.ireturn, 1) := by decide +kernel
theorem dX0_learnsOf_98 : decode cX0_learnsOf 98 = .ok (.iload_n 1, 1) := by decide +kernel
theorem dX0_learnsOf_99 : decode cX0_learnsOf 99 = .ok (.iconst 3, 1) := by decide +kernel
theorem dX0_learnsOf_100 : decode cX0_learnsOf 100 = .ok (.invokestatic 51, 3) := by decide +kernel
theorem dX0_learnsOf_103 : decode cX0_learnsOf 103 = .ok (.ireturn, 1) := by decide +kernel
theorem dX0_learnsOf_104 : decode cX0_learnsOf 104 = .ok (.iload_n 1, 1) := by decide +kernel
theorem dX0_learnsOf_105 : decode cX0_learnsOf 105 = .ok (.ireturn, 1) := by decide +kernel
theorem dX0_forgetsOf_0 : decode cX0_forgetsOf 0 = .ok (.aload_n 0, 1) := by decide +kernel
theorem dX0_forgetsOf_1 : decode cX0_forgetsOf 1 = .ok (.getfield 15, 3) := by decide +kernel
theorem dX0_forgetsOf_4 : decode cX0_forgetsOf 4 = .ok (.tableswitch 47 2 5 #[32, 36, 32, 40], 32) := by decide +kernel
theorem dX0_forgetsOf_36 : decode cX0_forgetsOf 36 = .ok (.iload_n 1, 1) := by decide +kernel
theorem dX0_forgetsOf_37 : decode cX0_forgetsOf 37 = .ok (.iconst 1, 1) := by decide +kernel
theorem dX0_forgetsOf_38 : decode cX0_forgetsOf 38 = .ok (.iadd, 1) := by decide +kernel
theorem dX0_forgetsOf_39 : decode cX0_forgetsOf 39 = .ok (.ireturn, 1) := by decide +kernel
theorem dX0_forgetsOf_40 : decode cX0_forgetsOf 40 = .ok (.iconst 2, 1) := by decide +kernel
theorem dX0_forgetsOf_41 : decode cX0_forgetsOf 41 = .ok (.iload_n 1, 1) := by decide +kernel
theorem dX0_forgetsOf_42 : decode cX0_forgetsOf 42 = .ok (.imul, 1) := by decide +kernel
theorem dX0_forgetsOf_43 : decode cX0_forgetsOf 43 = .ok (.ireturn, 1) := by decide +kernel
theorem dX0_forgetsOf_44 : decode cX0_forgetsOf 44 = .ok (.iload_n 1, 1) := by decide +kernel
theorem dX0_forgetsOf_45 : decode cX0_forgetsOf 45 = .ok (.aload_n 0, 1) := by decide +kernel
theorem dX0_forgetsOf_46 : decode cX0_forgetsOf 46 = .ok (.getfield 19, 3) := by decide +kernel
theorem dX0_forgetsOf_49 : decode cX0_forgetsOf 49 = .ok (.iadd, 1) := by decide +kernel
theorem dX0_forgetsOf_50 : decode cX0_forgetsOf 50 = .ok (.ireturn, 1) := by decide +kernel
theorem dX0_forgetsOf_51 : decode cX0_forgetsOf 51 = .ok (.iload_n 1, 1) := by decide +kernel
theorem dX0_forgetsOf_52 : decode cX0_forgetsOf 52 = .ok (.ireturn, 1) := by decide +kernel
theorem dX0_nerveOf_0 : decode cX0_nerveOf 0 = .ok (.aload_n 0, 1) := by decide +kernel
theorem dX0_nerveOf_1 : decode cX0_nerveOf 1 = .ok (.getfield 15, 3) := by decide +kernel
theorem dX0_nerveOf_4 : decode cX0_nerveOf 4 = .ok (.tableswitch 73 1 5 #[36, 40, 44, 53, 69], 36) := by decide +kernel
theorem dX0_nerveOf_40 : decode cX0_nerveOf 40 = .ok (.iload_n 1, 1) := by decide +kernel
theorem dX0_nerveOf_41 : decode cX0_nerveOf 41 = .ok (.iconst 5, 1) := by decide +kernel
theorem dX0_nerveOf_42 : decode cX0_nerveOf 42 = .ok (.iadd, 1) := by decide +kernel
theorem dX0_nerveOf_43 : decode cX0_nerveOf 43 = .ok (.ireturn, 1) := by decide +kernel
theorem dX0_nerveOf_44 : decode cX0_nerveOf 44 = .ok (.iload_n 1, 1) := by decide +kernel
theorem dX0_nerveOf_45 : decode cX0_nerveOf 45 = .ok (.iconst 5, 1) := by decide +kernel
theorem dX0_nerveOf_46 : decode cX0_nerveOf 46 = .ok (.isub, 1) := by decide +kernel
theorem dX0_nerveOf_47 : decode cX0_nerveOf 47 = .ok (.ireturn, 1) := by decide +kernel
theorem dX0_nerveOf_48 : decode cX0_nerveOf 48 = .ok (.iload_n 1, 1) := by decide +kernel
theorem dX0_nerveOf_49 : decode cX0_nerveOf 49 = .ok (.iconst 5, 1) := by decide +kernel
theorem dX0_nerveOf_50 : decode cX0_nerveOf 50 = .ok (.iadd, 1) := by decide +kernel
theorem dX0_nerveOf_51 : decode cX0_nerveOf 51 = .ok (.aload_n 0, 1) := by decide +kernel
theorem dX0_nerveOf_52 : decode cX0_nerveOf 52 = .ok (.getfield 19, 3) := by decide +kernel
theorem dX0_nerveOf_55 : decode cX0_nerveOf 55 = .ok (.iadd, 1) := by decide +kernel
theorem dX0_nerveOf_56 : decode cX0_nerveOf 56 = .ok (.ireturn, 1) := by decide +kernel
theorem dX0_nerveOf_57 : decode cX0_nerveOf 57 = .ok (.aload_n 0, 1) := by decide +kernel
theorem dX0_nerveOf_58 : decode cX0_nerveOf 58 = .ok (.getfield 22, 3) := by decide +kernel
theorem dX0_nerveOf_61 : decode cX0_nerveOf 61 = .ok (.iconst 1, 1) := by decide +kernel
theorem dX0_nerveOf_62 : decode cX0_nerveOf 62 = .ok (.if_icmp .le 7, 3) := by decide +kernel
theorem dX0_nerveOf_65 : decode cX0_nerveOf 65 = .ok (.iconst 0, 1) := by decide +kernel
theorem dX0_nerveOf_66 : decode cX0_nerveOf 66 = .ok (.goto 6, 3) := by decide +kernel
theorem dX0_nerveOf_69 : decode cX0_nerveOf 69 = .ok (.iload_n 1, 1) := by decide +kernel
theorem dX0_nerveOf_70 : decode cX0_nerveOf 70 = .ok (.iconst 5, 1) := by decide +kernel
theorem dX0_nerveOf_71 : decode cX0_nerveOf 71 = .ok (.isub, 1) := by decide +kernel
theorem dX0_nerveOf_72 : decode cX0_nerveOf 72 = .ok (.ireturn, 1) := by decide +kernel
theorem dX0_nerveOf_73 : decode cX0_nerveOf 73 = .ok (.iload_n 1, 1) := by decide +kernel
theorem dX0_nerveOf_74 : decode cX0_nerveOf 74 = .ok (.iconst 2, 1) := by decide +kernel
theorem dX0_nerveOf_75 : decode cX0_nerveOf 75 = .ok (.idiv, 1) := by decide +kernel
theorem dX0_nerveOf_76 : decode cX0_nerveOf 76 = .ok (.ireturn, 1) := by decide +kernel
theorem dX0_nerveOf_77 : decode cX0_nerveOf 77 = .ok (.iload_n 1, 1) := by decide +kernel
theorem dX0_nerveOf_78 : decode cX0_nerveOf 78 = .ok (.ireturn, 1) := by decide +kernel
theorem dX0_isOfKind_0 : decode cX0_isOfKind 0 = .ok (.aload_n 0, 1) := by decide +kernel
theorem dX0_isOfKind_1 : decode cX0_isOfKind 1 = .ok (.getfield 15, 3) := by decide +kernel
theorem dX0_isOfKind_4 : decode cX0_isOfKind 4 = .ok (.istore_n 2, 1) := by decide +kernel
theorem dX0_isOfKind_5 : decode cX0_isOfKind 5 = .ok (.iconst 0, 1) := by decide +kernel
theorem dX0_isOfKind_6 : decode cX0_isOfKind 6 = .ok (.istore_n 3, 1) := by decide +kernel
theorem dX0_isOfKind_7 : decode cX0_isOfKind 7 = .ok (.iload_n 3, 1) := by decide +kernel
theorem dX0_isOfKind_8 : decode cX0_isOfKind 8 = .ok (.bipush 6, 2) := by decide +kernel
theorem dX0_isOfKind_10 : decode cX0_isOfKind 10 = .ok (.if_icmp .ge 34, 3) := by decide +kernel
theorem dX0_isOfKind_13 : decode cX0_isOfKind 13 = .ok (.iload_n 2, 1) := by decide +kernel
theorem dX0_isOfKind_14 : decode cX0_isOfKind 14 = .ok (.ifCond .lt 30, 3) := by decide +kernel
theorem dX0_isOfKind_17 : decode cX0_isOfKind 17 = .ok (.iload_n 2, 1) := by decide +kernel
theorem dX0_isOfKind_18 : decode cX0_isOfKind 18 = .ok (.getstatic 57, 3) := by decide +kernel
theorem dX0_isOfKind_21 : decode cX0_isOfKind 21 = .ok (.arraylength, 1) := by decide +kernel
theorem dX0_isOfKind_22 : decode cX0_isOfKind 22 = .ok (.if_icmp .ge 22, 3) := by decide +kernel
theorem dX0_isOfKind_25 : decode cX0_isOfKind 25 = .ok (.iload_n 2, 1) := by decide +kernel
theorem dX0_isOfKind_26 : decode cX0_isOfKind 26 = .ok (.iload_n 1, 1) := by decide +kernel
theorem dX0_isOfKind_27 : decode cX0_isOfKind 27 = .ok (.if_icmp .ne 5, 3) := by decide +kernel
theorem dX0_isOfKind_30 : decode cX0_isOfKind 30 = .ok (.iconst 1, 1) := by decide +kernel
theorem dX0_isOfKind_31 : decode cX0_isOfKind 31 = .ok (.ireturn, 1) := by decide +kernel
theorem dX0_isOfKind_32 : decode cX0_isOfKind 32 = .ok (.getstatic 57, 3) := by decide +kernel
theorem dX0_isOfKind_35 : decode cX0_isOfKind 35 = .ok (.iload_n 2, 1) := by decide +kernel
theorem dX0_isOfKind_36 : decode cX0_isOfKind 36 = .ok (.iaload, 1) := by decide +kernel
theorem dX0_isOfKind_37 : decode cX0_isOfKind 37 = .ok (.istore_n 2, 1) := by decide +kernel
theorem dX0_isOfKind_38 : decode cX0_isOfKind 38 = .ok (.iinc 3 1, 3) := by decide +kernel
theorem dX0_isOfKind_41 : decode cX0_isOfKind 41 = .ok (.goto (-34), 3) := by decide +kernel
theorem dX0_isOfKind_44 : decode cX0_isOfKind 44 = .ok (.iconst 0, 1) := by decide +kernel
theorem dX0_isOfKind_45 : decode cX0_isOfKind 45 = .ok (.ireturn, 1) := by decide +kernel
theorem dX0_leastSkilled_0 : decode cX0_leastSkilled 0 = .ok (.iconst 0, 1) := by decide +kernel
theorem dX0_leastSkilled_1 : decode cX0_leastSkilled 1 = .ok (.istore_n 1, 1) := by decide +kernel
theorem dX0_leastSkilled_2 : decode cX0_leastSkilled 2 = .ok (.iconst 1, 1) := by decide +kernel
theorem dX0_leastSkilled_3 : decode cX0_leastSkilled 3 = .ok (.istore_n 2, 1) := by decide +kernel
theorem dX0_leastSkilled_4 : decode cX0_leastSkilled 4 = .ok (.iload_n 2, 1) := by decide +kernel
theorem dX0_leastSkilled_5 : decode cX0_leastSkilled 5 = .ok (.bipush 8, 2) := by decide +kernel
theorem dX0_leastSkilled_7 : decode cX0_leastSkilled 7 = .ok (.if_icmp .ge 26, 3) := by decide +kernel
theorem dX0_leastSkilled_10 : decode cX0_leastSkilled 10 = .ok (.aload_n 0, 1) := by decide +kernel
theorem dX0_leastSkilled_11 : decode cX0_leastSkilled 11 = .ok (.getfield 9, 3) := by decide +kernel
theorem dX0_leastSkilled_14 : decode cX0_leastSkilled 14 = .ok (.iload_n 2, 1) := by decide +kernel
theorem dX0_leastSkilled_15 : decode cX0_leastSkilled 15 = .ok (.iaload, 1) := by decide +kernel
theorem dX0_leastSkilled_16 : decode cX0_leastSkilled 16 = .ok (.aload_n 0, 1) := by decide +kernel
theorem dX0_leastSkilled_17 : decode cX0_leastSkilled 17 = .ok (.getfield 9, 3) := by decide +kernel
theorem dX0_leastSkilled_20 : decode cX0_leastSkilled 20 = .ok (.iload_n 1, 1) := by decide +kernel
theorem dX0_leastSkilled_21 : decode cX0_leastSkilled 21 = .ok (.iaload, 1) := by decide +kernel
theorem dX0_leastSkilled_22 : decode cX0_leastSkilled 22 = .ok (.if_icmp .ge 5, 3) := by decide +kernel
theorem dX0_leastSkilled_25 : decode cX0_leastSkilled 25 = .ok (.iload_n 2, 1) := by decide +kernel
theorem dX0_leastSkilled_26 : decode cX0_leastSkilled 26 = .ok (.istore_n 1, 1) := by decide +kernel
theorem dX0_leastSkilled_27 : decode cX0_leastSkilled 27 = .ok (.iinc 2 1, 3) := by decide +kernel
theorem dX0_leastSkilled_30 : decode cX0_leastSkilled 30 = .ok (.goto (-26), 3) := by decide +kernel
theorem dX0_leastSkilled_33 : decode cX0_leastSkilled 33 = .ok (.iload_n 1, 1) := by decide +kernel
theorem dX0_leastSkilled_34 : decode cX0_leastSkilled 34 = .ok (.ireturn, 1) := by decide +kernel
theorem dX0_skillsTogether_0 : decode cX0_skillsTogether 0 = .ok (.iconst 0, 1) := by decide +kernel
theorem dX0_skillsTogether_1 : decode cX0_skillsTogether 1 = .ok (.istore_n 1, 1) := by decide +kernel
theorem dX0_skillsTogether_2 : decode cX0_skillsTogether 2 = .ok (.iconst 0, 1) := by decide +kernel
theorem dX0_skillsTogether_3 : decode cX0_skillsTogether 3 = .ok (.istore_n 2, 1) := by decide +kernel
theorem dX0_skillsTogether_4 : decode cX0_skillsTogether 4 = .ok (.iload_n 2, 1) := by decide +kernel
theorem dX0_skillsTogether_5 : decode cX0_skillsTogether 5 = .ok (.bipush 8, 2) := by decide +kernel
theorem dX0_skillsTogether_7 : decode cX0_skillsTogether 7 = .ok (.if_icmp .ge 18, 3) := by decide +kernel
theorem dX0_skillsTogether_10 : decode cX0_skillsTogether 10 = .ok (.iload_n 1, 1) := by decide +kernel
theorem dX0_skillsTogether_11 : decode cX0_skillsTogether 11 = .ok (.aload_n 0, 1) := by decide +kernel
theorem dX0_skillsTogether_12 : decode cX0_skillsTogether 12 = .ok (.getfield 9, 3) := by decide +kernel
theorem dX0_skillsTogether_15 : decode cX0_skillsTogether 15 = .ok (.iload_n 2, 1) := by decide +kernel
theorem dX0_skillsTogether_16 : decode cX0_skillsTogether 16 = .ok (.iaload, 1) := by decide +kernel
theorem dX0_skillsTogether_17 : decode cX0_skillsTogether 17 = .ok (.iadd, 1) := by decide +kernel
theorem dX0_skillsTogether_18 : decode cX0_skillsTogether 18 = .ok (.istore_n 1, 1) := by decide +kernel
theorem dX0_skillsTogether_19 : decode cX0_skillsTogether 19 = .ok (.iinc 2 1, 3) := by decide +kernel
theorem dX0_skillsTogether_22 : decode cX0_skillsTogether 22 = .ok (.goto (-18), 3) := by decide +kernel
theorem dX0_skillsTogether_25 : decode cX0_skillsTogether 25 = .ok (.iload_n 1, 1) := by decide +kernel
theorem dX0_skillsTogether_26 : decode cX0_skillsTogether 26 = .ok (.ireturn, 1) := by decide +kernel
theorem dX1_init_0 : decode cX1_init 0 = .ok (.aload_n 0, 1) := by decide +kernel
theorem dX1_init_1 : decode cX1_init 1 = .ok (.invokespecial 3, 3) := by decide +kernel
theorem dX1_init_4 : decode cX1_init 4 = .ok (.aload_n 0, 1) := by decide +kernel
theorem dX1_init_5 : decode cX1_init 5 = .ok (.sipush 160, 3) := by decide +kernel
theorem dX1_init_8 : decode cX1_init 8 = .ok (.newarray .int, 2) := by decide +kernel
theorem dX1_init_10 : decode cX1_init 10 = .ok (.putfield 9, 3) := by decide +kernel
theorem dX1_init_13 : decode cX1_init 13 = .ok (.aload_n 0, 1) := by decide +kernel
theorem dX1_init_14 : decode cX1_init 14 = .ok (.new 15, 3) := by decide +kernel
theorem dX1_init_17 : decode cX1_init 17 = .ok (.dup, 1) := by decide +kernel
theorem dX1_init_18 : decode cX1_init 18 = .ok (.iconst (-1), 1) := by decide +kernel
theorem dX1_init_19 : decode cX1_init 19 = .ok (.invokespecial 17, 3) := by decide +kernel
theorem dX1_init_22 : decode cX1_init 22 = .ok (.putfield 20, 3) := by decide +kernel
theorem dX1_init_25 : decode cX1_init 25 = .ok (.return_, 1) := by decide +kernel
theorem dX1_take_0 : decode cX1_take 0 = .ok (.aload_n 0, 1) := by decide +kernel
theorem dX1_take_1 : decode cX1_take 1 = .ok (.getfield 24, 3) := by decide +kernel
theorem dX1_take_4 : decode cX1_take 4 = .ok (.ifCond .lt 13, 3) := by decide +kernel
theorem dX1_take_7 : decode cX1_take 7 = .ok (.aload_n 0, 1) := by decide +kernel
theorem dX1_take_8 : decode cX1_take 8 = .ok (.getfield 24, 3) := by decide +kernel
theorem dX1_take_11 : decode cX1_take 11 = .ok (.sipush 160, 3) := by decide +kernel
theorem dX1_take_14 : decode cX1_take 14 = .ok (.if_icmp .lt 5, 3) := by decide +kernel
theorem dX1_take_17 : decode cX1_take 17 = .ok (.iconst 0, 1) := by decide +kernel
theorem dX1_take_18 : decode cX1_take 18 = .ok (.ireturn, 1) := by decide +kernel
theorem dX1_take_19 : decode cX1_take 19 = .ok (.aload_n 0, 1) := by decide +kernel
theorem dX1_take_20 : decode cX1_take 20 = .ok (.getfield 9, 3) := by decide +kernel
theorem dX1_take_23 : decode cX1_take 23 = .ok (.aload_n 0, 1) := by decide +kernel
theorem dX1_take_24 : decode cX1_take 24 = .ok (.getfield 24, 3) := by decide +kernel
theorem dX1_take_27 : decode cX1_take 27 = .ok (.iload_n 1, 1) := by decide +kernel
theorem dX1_take_28 : decode cX1_take 28 = .ok (.iastore, 1) := by decide +kernel
theorem dX1_take_29 : decode cX1_take 29 = .ok (.aload_n 0, 1) := by decide +kernel
theorem dX1_take_30 : decode cX1_take 30 = .ok (.dup, 1) := by decide +kernel
theorem dX1_take_31 : decode cX1_take 31 = .ok (.getfield 24, 3) := by decide +kernel
theorem dX1_take_34 : decode cX1_take 34 = .ok (.iconst 1, 1) := by decide +kernel
theorem dX1_take_35 : decode cX1_take 35 = .ok (.iadd, 1) := by decide +kernel
theorem dX1_take_36 : decode cX1_take 36 = .ok (.putfield 24, 3) := by decide +kernel
theorem dX1_take_39 : decode cX1_take 39 = .ok (.iconst 1, 1) := by decide +kernel
theorem dX1_take_40 : decode cX1_take 40 = .ok (.ireturn, 1) := by decide +kernel
theorem dX1_readInto_0 : decode cX1_readInto 0 = .ok (.aload_n 0, 1) := by decide +kernel
theorem dX1_readInto_1 : decode cX1_readInto 1 = .ok (.getfield 20, 3) := by decide +kernel
theorem dX1_readInto_4 : decode cX1_readInto 4 = .ok (.invokevirtual 28, 3) := by decide +kernel
theorem dX1_readInto_7 : decode cX1_readInto 7 = .ok (.aload_n 0, 1) := by decide +kernel
theorem dX1_readInto_8 : decode cX1_readInto 8 = .ok (.iconst 0, 1) := by decide +kernel
theorem dX1_readInto_9 : decode cX1_readInto 9 = .ok (.putfield 31, 3) := by decide +kernel
theorem dX1_readInto_12 : decode cX1_readInto 12 = .ok (.aload_n 0, 1) := by decide +kernel
theorem dX1_readInto_13 : decode cX1_readInto 13 = .ok (.invokevirtual 34, 3) := by decide +kernel
theorem dX1_readInto_16 : decode cX1_readInto 16 = .ok (.aload_n 0, 1) := by decide +kernel
theorem dX1_readInto_17 : decode cX1_readInto 17 = .ok (.iconst 3, 1) := by decide +kernel
theorem dX1_readInto_18 : decode cX1_readInto 18 = .ok (.iconst 0, 1) := by decide +kernel
theorem dX1_readInto_19 : decode cX1_readInto 19 = .ok (.invokevirtual 37, 3) := by decide +kernel
theorem dX1_readInto_22 : decode cX1_readInto 22 = .ok (.ifCond .eq 32, 3) := by decide +kernel
theorem dX1_readInto_25 : decode cX1_readInto 25 = .ok (.aload_n 0, 1) := by decide +kernel
theorem dX1_readInto_26 : decode cX1_readInto 26 = .ok (.iconst 4, 1) := by decide +kernel
theorem dX1_readInto_27 : decode cX1_readInto 27 = .ok (.iconst 1, 1) := by decide +kernel
theorem dX1_readInto_28 : decode cX1_readInto 28 = .ok (.invokevirtual 37, 3) := by decide +kernel
theorem dX1_readInto_31 : decode cX1_readInto 31 = .ok (.ifCond .eq 23, 3) := by decide +kernel
theorem dX1_readInto_34 : decode cX1_readInto 34 = .ok (.aload_n 0, 1) := by decide +kernel
theorem dX1_readInto_35 : decode cX1_readInto 35 = .ok (.iconst 5, 1) := by decide +kernel
theorem dX1_readInto_36 : decode cX1_readInto 36 = .ok (.iconst 2, 1) := by decide +kernel
theorem dX1_readInto_37 : decode cX1_readInto 37 = .ok (.invokevirtual 37, 3) := by decide +kernel
theorem dX1_readInto_40 : decode cX1_readInto 40 = .ok (.ifCond .eq 14, 3) := by decide +kernel
theorem dX1_readInto_43 : decode cX1_readInto 43 = .ok (.aload_n 0, 1) := by decide +kernel
theorem dX1_readInto_44 : decode cX1_readInto 44 = .ok (.getfield 41, 3) := by decide +kernel
theorem dX1_readInto_47 : decode cX1_readInto 47 = .ok (.ifCond .ne 7, 3) := by decide +kernel
theorem dX1_readInto_50 : decode cX1_readInto 50 = .ok (.iconst 1, 1) := by decide +kernel
theorem dX1_readInto_51 : decode cX1_readInto 51 = .ok (.goto 4, 3) := by decide +kernel
theorem dX1_readInto_54 : decode cX1_readInto 54 = .ok (.iconst 0, 1) := by decide +kernel
theorem dX1_readInto_55 : decode cX1_readInto 55 = .ok (.istore_n 2, 1) := by decide +kernel
theorem dX1_readInto_56 : decode cX1_readInto 56 = .ok (.aload_n 0, 1) := by decide +kernel
theorem dX1_readInto_57 : decode cX1_readInto 57 = .ok (.iconst 0, 1) := by decide +kernel
theorem dX1_readInto_58 : decode cX1_readInto 58 = .ok (.putfield 24, 3) := by decide +kernel
theorem dX1_readInto_61 : decode cX1_readInto 61 = .ok (.iload_n 2, 1) := by decide +kernel
theorem dX1_readInto_62 : decode cX1_readInto 62 = .ok (.ifCond .ne 8, 3) := by decide +kernel
theorem dX1_readInto_65 : decode cX1_readInto 65 = .ok (.aload_n 0, 1) := by decide +kernel
theorem dX1_readInto_66 : decode cX1_readInto 66 = .ok (.getfield 44, 3) := by decide +kernel
theorem dX1_readInto_69 : decode cX1_readInto 69 = .ok (.ireturn, 1) := by decide +kernel
theorem dX1_readInto_70 : decode cX1_readInto 70 = .ok (.aload_n 1, 1) := by decide +kernel
theorem dX1_readInto_71 : decode cX1_readInto 71 = .ok (.aload_n 0, 1) := by decide +kernel
theorem dX1_readInto_72 : decode cX1_readInto 72 = .ok (.getfield 20, 3) := by decide +kernel
theorem dX1_readInto_75 : decode cX1_readInto 75 = .ok (.invokevirtual 47, 3) := by decide +kernel
theorem dX1_readInto_78 : decode cX1_readInto 78 = .ok (.iconst (-1), 1) := by decide +kernel
theorem dX1_readInto_79 : decode cX1_readInto 79 = .ok (.ireturn, 1) := by decide +kernel
theorem dX1_readPart_0 : decode cX1_readPart 0 = .ok (.aload_n 0, 1) := by decide +kernel
theorem dX1_readPart_1 : decode cX1_readPart 1 = .ok (.getfield 41, 3) := by decide +kernel
theorem dX1_readPart_4 : decode cX1_readPart 4 = .ok (.iload_n 1, 1) := by decide +kernel
theorem dX1_readPart_5 : decode cX1_readPart 5 = .ok (.if_icmp .eq 5, 3) := by decide +kernel
theorem dX1_readPart_8 : decode cX1_readPart 8 = .ok (.iconst 0, 1) := by decide +kernel
theorem dX1_readPart_9 : decode cX1_readPart 9 = .ok (.ireturn, 1) := by decide +kernel
theorem dX1_readPart_10 : decode cX1_readPart 10 = .ok (.aload_n 0, 1) := by decide +kernel
theorem dX1_readPart_11 : decode cX1_readPart 11 = .ok (.invokevirtual 34, 3) := by decide +kernel
theorem dX1_readPart_14 : decode cX1_readPart 14 = .ok (.aload_n 0, 1) := by decide +kernel
theorem dX1_readPart_15 : decode cX1_readPart 15 = .ok (.iconst 0, 1) := by decide +kernel
theorem dX1_readPart_16 : decode cX1_readPart 16 = .ok (.invokevirtual 51, 3) := by decide +kernel
theorem dX1_readPart_19 : decode cX1_readPart 19 = .ok (.ifCond .eq 12, 3) := by decide +kernel
theorem dX1_readPart_22 : decode cX1_readPart 22 = .ok (.aload_n 0, 1) := by decide +kernel
theorem dX1_readPart_23 : decode cX1_readPart 23 = .ok (.getfield 41, 3) := by decide +kernel
theorem dX1_readPart_26 : decode cX1_readPart 26 = .ok (.bipush 59, 2) := by decide +kernel
theorem dX1_readPart_28 : decode cX1_readPart 28 = .ok (.if_icmp .eq 5, 3) := by decide +kernel
theorem dX1_readPart_31 : decode cX1_readPart 31 = .ok (.iconst 0, 1) := by decide +kernel
theorem dX1_readPart_32 : decode cX1_readPart 32 = .ok (.ireturn, 1) := by decide +kernel
theorem dX1_readPart_33 : decode cX1_readPart 33 = .ok (.aload_n 0, 1) := by decide +kernel
theorem dX1_readPart_34 : decode cX1_readPart 34 = .ok (.invokevirtual 34, 3) := by decide +kernel
theorem dX1_readPart_37 : decode cX1_readPart 37 = .ok (.aload_n 0, 1) := by decide +kernel
theorem dX1_readPart_38 : decode cX1_readPart 38 = .ok (.getfield 20, 3) := by decide +kernel
theorem dX1_readPart_41 : decode cX1_readPart 41 = .ok (.iload_n 2, 1) := by decide +kernel
theorem dX1_readPart_42 : decode cX1_readPart 42 = .ok (.invokevirtual 55, 3) := by decide +kernel
theorem dX1_readPart_45 : decode cX1_readPart 45 = .ok (.iconst 1, 1) := by decide +kernel
theorem dX1_readPart_46 : decode cX1_readPart 46 = .ok (.ireturn, 1) := by decide +kernel
theorem dX1_readOr_0 : decode cX1_readOr 0 = .ok (.aload_n 0, 1) := by decide +kernel
theorem dX1_readOr_1 : decode cX1_readOr 1 = .ok (.iload_n 1, 1) := by decide +kernel
theorem dX1_readOr_2 : decode cX1_readOr 2 = .ok (.invokevirtual 58, 3) := by decide +kernel
theorem dX1_readOr_5 : decode cX1_readOr 5 = .ok (.ifCond .ne 5, 3) := by decide +kernel
theorem dX1_readOr_8 : decode cX1_readOr 8 = .ok (.iconst 0, 1) := by decide +kernel
theorem dX1_readOr_9 : decode cX1_readOr 9 = .ok (.ireturn, 1) := by decide +kernel
theorem dX1_readOr_10 : decode cX1_readOr 10 = .ok (.iconst 0, 1) := by decide +kernel
theorem dX1_readOr_11 : decode cX1_readOr 11 = .ok (.istore_n 2, 1) := by decide +kernel
theorem dX1_readOr_12 : decode cX1_readOr 12 = .ok (.iload_n 2, 1) := by decide +kernel
theorem dX1_readOr_13 : decode cX1_readOr 13 = .ok (.sipush 160, 3) := by decide +kernel
theorem dX1_readOr_16 : decode cX1_readOr 16 = .ok (.if_icmp .ge 41, 3) := by decide +kernel
theorem dX1_readOr_19 : decode cX1_readOr 19 = .ok (.aload_n 0, 1) := by decide +kernel
theorem dX1_readOr_20 : decode cX1_readOr 20 = .ok (.getfield 41, 3) := by decide +kernel
theorem dX1_readOr_23 : decode cX1_readOr 23 = .ok (.bipush 6, 2) := by decide +kernel
theorem dX1_readOr_25 : decode cX1_readOr 25 = .ok (.if_icmp .ne 32, 3) := by decide +kernel
theorem dX1_readOr_28 : decode cX1_readOr 28 = .ok (.aload_n 0, 1) := by decide +kernel
theorem dX1_readOr_29 : decode cX1_readOr 29 = .ok (.invokevirtual 34, 3) := by decide +kernel
theorem dX1_readOr_32 : decode cX1_readOr 32 = .ok (.aload_n 0, 1) := by decide +kernel
theorem dX1_readOr_33 : decode cX1_readOr 33 = .ok (.iload_n 1, 1) := by decide +kernel
theorem dX1_readOr_34 : decode cX1_readOr 34 = .ok (.invokevirtual 58, 3) := by decide +kernel
theorem dX1_readOr_37 : decode cX1_readOr 37 = .ok (.ifCond .ne 5, 3) := by decide +kernel
theorem dX1_readOr_40 : decode cX1_readOr 40 = .ok (.iconst 0, 1) := by decide +kernel
theorem dX1_readOr_41 : decode cX1_readOr 41 = .ok (.ireturn, 1) := by decide +kernel
theorem dX1_readOr_42 : decode cX1_readOr 42 = .ok (.aload_n 0, 1) := by decide +kernel
theorem dX1_readOr_43 : decode cX1_readOr 43 = .ok (.getfield 20, 3) := by decide +kernel
theorem dX1_readOr_46 : decode cX1_readOr 46 = .ok (.bipush (-11), 2) := by decide +kernel
theorem dX1_readOr_48 : decode cX1_readOr 48 = .ok (.invokevirtual 61, 3) := by decide +kernel
theorem dX1_readOr_51 : decode cX1_readOr 51 = .ok (.iinc 2 1, 3) := by decide +kernel
theorem dX1_readOr_54 : decode cX1_readOr 54 = .ok (.goto (-42), 3) := by decide +kernel
theorem dX1_readOr_57 : decode cX1_readOr 57 = .ok (.iconst 1, 1) := by decide +kernel
theorem dX1_readOr_58 : decode cX1_readOr 58 = .ok (.ireturn, 1) := by decide +kernel
theorem dX1_readAnd_0 : decode cX1_readAnd 0 = .ok (.aload_n 0, 1) := by decide +kernel
theorem dX1_readAnd_1 : decode cX1_readAnd 1 = .ok (.iload_n 1, 1) := by decide +kernel
theorem dX1_readAnd_2 : decode cX1_readAnd 2 = .ok (.invokevirtual 64, 3) := by decide +kernel
theorem dX1_readAnd_5 : decode cX1_readAnd 5 = .ok (.ifCond .ne 5, 3) := by decide +kernel
theorem dX1_readAnd_8 : decode cX1_readAnd 8 = .ok (.iconst 0, 1) := by decide +kernel
theorem dX1_readAnd_9 : decode cX1_readAnd 9 = .ok (.ireturn, 1) := by decide +kernel
theorem dX1_readAnd_10 : decode cX1_readAnd 10 = .ok (.iconst 0, 1) := by decide +kernel
theorem dX1_readAnd_11 : decode cX1_readAnd 11 = .ok (.istore_n 2, 1) := by decide +kernel
theorem dX1_readAnd_12 : decode cX1_readAnd 12 = .ok (.iload_n 2, 1) := by decide +kernel
theorem dX1_readAnd_13 : decode cX1_readAnd 13 = .ok (.sipush 160, 3) := by decide +kernel
theorem dX1_readAnd_16 : decode cX1_readAnd 16 = .ok (.if_icmp .ge 41, 3) := by decide +kernel
theorem dX1_readAnd_19 : decode cX1_readAnd 19 = .ok (.aload_n 0, 1) := by decide +kernel
theorem dX1_readAnd_20 : decode cX1_readAnd 20 = .ok (.getfield 41, 3) := by decide +kernel
theorem dX1_readAnd_23 : decode cX1_readAnd 23 = .ok (.bipush 7, 2) := by decide +kernel
theorem dX1_readAnd_25 : decode cX1_readAnd 25 = .ok (.if_icmp .ne 32, 3) := by decide +kernel
theorem dX1_readAnd_28 : decode cX1_readAnd 28 = .ok (.aload_n 0, 1) := by decide +kernel
theorem dX1_readAnd_29 : decode cX1_readAnd 29 = .ok (.invokevirtual 34, 3) := by decide +kernel
theorem dX1_readAnd_32 : decode cX1_readAnd 32 = .ok (.aload_n 0, 1) := by decide +kernel
theorem dX1_readAnd_33 : decode cX1_readAnd 33 = .ok (.iload_n 1, 1) := by decide +kernel
theorem dX1_readAnd_34 : decode cX1_readAnd 34 = .ok (.invokevirtual 64, 3) := by decide +kernel
theorem dX1_readAnd_37 : decode cX1_readAnd 37 = .ok (.ifCond .ne 5, 3) := by decide +kernel
theorem dX1_readAnd_40 : decode cX1_readAnd 40 = .ok (.iconst 0, 1) := by decide +kernel
theorem dX1_readAnd_41 : decode cX1_readAnd 41 = .ok (.ireturn, 1) := by decide +kernel
theorem dX1_readAnd_42 : decode cX1_readAnd 42 = .ok (.aload_n 0, 1) := by decide +kernel
theorem dX1_readAnd_43 : decode cX1_readAnd 43 = .ok (.getfield 20, 3) := by decide +kernel
theorem dX1_readAnd_46 : decode cX1_readAnd 46 = .ok (.bipush (-12), 2) := by decide +kernel
theorem dX1_readAnd_48 : decode cX1_readAnd 48 = .ok (.invokevirtual 61, 3) := by decide +kernel
theorem dX1_readAnd_51 : decode cX1_readAnd 51 = .ok (.iinc 2 1, 3) := by decide +kernel
theorem dX1_readAnd_54 : decode cX1_readAnd 54 = .ok (.goto (-42), 3) := by decide +kernel
theorem dX1_readAnd_57 : decode cX1_readAnd 57 = .ok (.iconst 1, 1) := by decide +kernel
theorem dX1_readAnd_58 : decode cX1_readAnd 58 = .ok (.ireturn, 1) := by decide +kernel
theorem dX1_readNot_0 : decode cX1_readNot 0 = .ok (.aload_n 0, 1) := by decide +kernel
theorem dX1_readNot_1 : decode cX1_readNot 1 = .ok (.getfield 41, 3) := by decide +kernel
theorem dX1_readNot_4 : decode cX1_readNot 4 = .ok (.bipush 8, 2) := by decide +kernel
theorem dX1_readNot_6 : decode cX1_readNot 6 = .ok (.if_icmp .eq 9, 3) := by decide +kernel
theorem dX1_readNot_9 : decode cX1_readNot 9 = .ok (.aload_n 0, 1) := by decide +kernel
theorem dX1_readNot_10 : decode cX1_readNot 10 = .ok (.iload_n 1, 1) := by decide +kernel
theorem dX1_readNot_11 : decode cX1_readNot 11 = .ok (.invokevirtual 67, 3) := by decide +kernel
theorem dX1_readNot_14 : decode cX1_readNot 14 = .ok (.ireturn, 1) := by decide +kernel
theorem dX1_readNot_15 : decode cX1_readNot 15 = .ok (.iload_n 1, 1) := by decide +kernel
theorem dX1_readNot_16 : decode cX1_readNot 16 = .ok (.iconst 5, 1) := by decide +kernel
theorem dX1_readNot_17 : decode cX1_readNot 17 = .ok (.if_icmp .lt 5, 3) := by decide +kernel
theorem dX1_readNot_20 : decode cX1_readNot 20 = .ok (.iconst 0, 1) := by decide +kernel
theorem dX1_readNot_21 : decode cX1_readNot 21 = .ok (.ireturn, 1) := by decide +kernel
theorem dX1_readNot_22 : decode cX1_readNot 22 = .ok (.aload_n 0, 1) := by decide +kernel
theorem dX1_readNot_23 : decode cX1_readNot 23 = .ok (.invokevirtual 34, 3) := by decide +kernel
theorem dX1_readNot_26 : decode cX1_readNot 26 = .ok (.aload_n 0, 1) := by decide +kernel
theorem dX1_readNot_27 : decode cX1_readNot 27 = .ok (.iload_n 1, 1) := by decide +kernel
theorem dX1_readNot_28 : decode cX1_readNot 28 = .ok (.iconst 1, 1) := by decide +kernel
theorem dX1_readNot_29 : decode cX1_readNot 29 = .ok (.iadd, 1) := by decide +kernel
theorem dX1_readNot_30 : decode cX1_readNot 30 = .ok (.invokevirtual 64, 3) := by decide +kernel
theorem dX1_readNot_33 : decode cX1_readNot 33 = .ok (.ifCond .ne 5, 3) := by decide +kernel
theorem dX1_readNot_36 : decode cX1_readNot 36 = .ok (.iconst 0, 1) := by decide +kernel
theorem dX1_readNot_37 : decode cX1_readNot 37 = .ok (.ireturn, 1) := by decide +kernel
theorem dX1_readNot_38 : decode cX1_readNot 38 = .ok (.aload_n 0, 1) := by decide +kernel
theorem dX1_readNot_39 : decode cX1_readNot 39 = .ok (.getfield 20, 3) := by decide +kernel
theorem dX1_readNot_42 : decode cX1_readNot 42 = .ok (.bipush (-13), 2) := by decide +kernel
theorem dX1_readNot_44 : decode cX1_readNot 44 = .ok (.invokevirtual 61, 3) := by decide +kernel
theorem dX1_readNot_47 : decode cX1_readNot 47 = .ok (.iconst 1, 1) := by decide +kernel
theorem dX1_readNot_48 : decode cX1_readNot 48 = .ok (.ireturn, 1) := by decide +kernel
theorem dX1_readLike_0 : decode cX1_readLike 0 = .ok (.aload_n 0, 1) := by decide +kernel
theorem dX1_readLike_1 : decode cX1_readLike 1 = .ok (.iload_n 1, 1) := by decide +kernel
theorem dX1_readLike_2 : decode cX1_readLike 2 = .ok (.invokevirtual 70, 3) := by decide +kernel
theorem dX1_readLike_5 : decode cX1_readLike 5 = .ok (.ifCond .ne 5, 3) := by decide +kernel
theorem dX1_readLike_8 : decode cX1_readLike 8 = .ok (.iconst 0, 1) := by decide +kernel
theorem dX1_readLike_9 : decode cX1_readLike 9 = .ok (.ireturn, 1) := by decide +kernel
theorem dX1_readLike_10 : decode cX1_readLike 10 = .ok (.aload_n 0, 1) := by decide +kernel
theorem dX1_readLike_11 : decode cX1_readLike 11 = .ok (.getfield 41, 3) := by decide +kernel
theorem dX1_readLike_14 : decode cX1_readLike 14 = .ok (.bipush 60, 2) := by decide +kernel
theorem dX1_readLike_16 : decode cX1_readLike 16 = .ok (.if_icmp .eq 14, 3) := by decide +kernel
theorem dX1_readLike_19 : decode cX1_readLike 19 = .ok (.aload_n 0, 1) := by decide +kernel
theorem dX1_readLike_20 : decode cX1_readLike 20 = .ok (.getfield 41, 3) := by decide +kernel
theorem dX1_readLike_23 : decode cX1_readLike 23 = .ok (.bipush 61, 2) := by decide +kernel
theorem dX1_readLike_25 : decode cX1_readLike 25 = .ok (.if_icmp .eq 5, 3) := by decide +kernel
theorem dX1_readLike_28 : decode cX1_readLike 28 = .ok (.iconst 1, 1) := by decide +kernel
theorem dX1_readLike_29 : decode cX1_readLike 29 = .ok (.ireturn, 1) := by decide +kernel
theorem dX1_readLike_30 : decode cX1_readLike 30 = .ok (.aload_n 0, 1) := by decide +kernel
theorem dX1_readLike_31 : decode cX1_readLike 31 = .ok (.getfield 41, 3) := by decide +kernel
theorem dX1_readLike_34 : decode cX1_readLike 34 = .ok (.bipush 60, 2) := by decide +kernel
theorem dX1_readLike_36 : decode cX1_readLike 36 = .ok (.if_icmp .ne 8, 3) := by decide +kernel
theorem dX1_readLike_39 : decode cX1_readLike 39 = .ok (.bipush (-14), 2) := by decide +kernel
theorem dX1_readLike_41 : decode cX1_readLike 41 = .ok (.goto 5, 3) := by decide +kernel
theorem dX1_readLike_44 : decode cX1_readLike 44 = .ok (.bipush (-15), 2) := by decide +kernel
theorem dX1_readLike_46 : decode cX1_readLike 46 = .ok (.istore_n 2, 1) := by decide +kernel
theorem dX1_readLike_47 : decode cX1_readLike 47 = .ok (.aload_n 0, 1) := by decide +kernel
theorem dX1_readLike_48 : decode cX1_readLike 48 = .ok (.invokevirtual 34, 3) := by decide +kernel
theorem dX1_readLike_51 : decode cX1_readLike 51 = .ok (.aload_n 0, 1) := by decide +kernel
theorem dX1_readLike_52 : decode cX1_readLike 52 = .ok (.iload_n 1, 1) := by decide +kernel
theorem dX1_readLike_53 : decode cX1_readLike 53 = .ok (.invokevirtual 70, 3) := by decide +kernel
theorem dX1_readLike_56 : decode cX1_readLike 56 = .ok (.ifCond .ne 5, 3) := by decide +kernel
theorem dX1_readLike_59 : decode cX1_readLike 59 = .ok (.iconst 0, 1) := by decide +kernel
theorem dX1_readLike_60 : decode cX1_readLike 60 = .ok (.ireturn, 1) := by decide +kernel
theorem dX1_readLike_61 : decode cX1_readLike 61 = .ok (.aload_n 0, 1) := by decide +kernel
theorem dX1_readLike_62 : decode cX1_readLike 62 = .ok (.getfield 20, 3) := by decide +kernel
theorem dX1_readLike_65 : decode cX1_readLike 65 = .ok (.iload_n 2, 1) := by decide +kernel
theorem dX1_readLike_66 : decode cX1_readLike 66 = .ok (.invokevirtual 61, 3) := by decide +kernel
theorem dX1_readLike_69 : decode cX1_readLike 69 = .ok (.iconst 1, 1) := by decide +kernel
theorem dX1_readLike_70 : decode cX1_readLike 70 = .ok (.ireturn, 1) := by decide +kernel
theorem dX1_readSum_0 : decode cX1_readSum 0 = .ok (.aload_n 0, 1) := by decide +kernel
theorem dX1_readSum_1 : decode cX1_readSum 1 = .ok (.iload_n 1, 1) := by decide +kernel
theorem dX1_readSum_2 : decode cX1_readSum 2 = .ok (.invokevirtual 73, 3) := by decide +kernel
theorem dX1_readSum_5 : decode cX1_readSum 5 = .ok (.ifCond .ne 5, 3) := by decide +kernel
theorem dX1_readSum_8 : decode cX1_readSum 8 = .ok (.iconst 0, 1) := by decide +kernel
theorem dX1_readSum_9 : decode cX1_readSum 9 = .ok (.ireturn, 1) := by decide +kernel
theorem dX1_readSum_10 : decode cX1_readSum 10 = .ok (.iconst 0, 1) := by decide +kernel
theorem dX1_readSum_11 : decode cX1_readSum 11 = .ok (.istore_n 2, 1) := by decide +kernel
theorem dX1_readSum_12 : decode cX1_readSum 12 = .ok (.iload_n 2, 1) := by decide +kernel
theorem dX1_readSum_13 : decode cX1_readSum 13 = .ok (.sipush 160, 3) := by decide +kernel
theorem dX1_readSum_16 : decode cX1_readSum 16 = .ok (.if_icmp .ge 66, 3) := by decide +kernel
theorem dX1_readSum_19 : decode cX1_readSum 19 = .ok (.aload_n 0, 1) := by decide +kernel
theorem dX1_readSum_20 : decode cX1_readSum 20 = .ok (.getfield 41, 3) := by decide +kernel
theorem dX1_readSum_23 : decode cX1_readSum 23 = .ok (.bipush 43, 2) := by decide +kernel
theorem dX1_readSum_25 : decode cX1_readSum 25 = .ok (.if_icmp .eq 12, 3) := by decide +kernel
theorem dX1_readSum_28 : decode cX1_readSum 28 = .ok (.aload_n 0, 1) := by decide +kernel
theorem dX1_readSum_29 : decode cX1_readSum 29 = .ok (.getfield 41, 3) := by decide +kernel
theorem dX1_readSum_32 : decode cX1_readSum 32 = .ok (.bipush 45, 2) := by decide +kernel
theorem dX1_readSum_34 : decode cX1_readSum 34 = .ok (.if_icmp .ne 48, 3) := by decide +kernel
theorem dX1_readSum_37 : decode cX1_readSum 37 = .ok (.aload_n 0, 1) := by decide +kernel
theorem dX1_readSum_38 : decode cX1_readSum 38 = .ok (.getfield 41, 3) := by decide +kernel
theorem dX1_readSum_41 : decode cX1_readSum 41 = .ok (.bipush 43, 2) := by decide +kernel
theorem dX1_readSum_43 : decode cX1_readSum 43 = .ok (.if_icmp .ne 8, 3) := by decide +kernel
theorem dX1_readSum_46 : decode cX1_readSum 46 = .ok (.bipush (-16), 2) := by decide +kernel
theorem dX1_readSum_48 : decode cX1_readSum 48 = .ok (.goto 5, 3) := by decide +kernel
theorem dX1_readSum_51 : decode cX1_readSum 51 = .ok (.bipush (-17), 2) := by decide +kernel
theorem dX1_readSum_53 : decode cX1_readSum 53 = .ok (.istore_n 3, 1) := by decide +kernel
theorem dX1_readSum_54 : decode cX1_readSum 54 = .ok (.aload_n 0, 1) := by decide +kernel
theorem dX1_readSum_55 : decode cX1_readSum 55 = .ok (.invokevirtual 34, 3) := by decide +kernel
theorem dX1_readSum_58 : decode cX1_readSum 58 = .ok (.aload_n 0, 1) := by decide +kernel
theorem dX1_readSum_59 : decode cX1_readSum 59 = .ok (.iload_n 1, 1) := by decide +kernel
theorem dX1_readSum_60 : decode cX1_readSum 60 = .ok (.invokevirtual 73, 3) := by decide +kernel
theorem dX1_readSum_63 : decode cX1_readSum 63 = .ok (.ifCond .ne 5, 3) := by decide +kernel
theorem dX1_readSum_66 : decode cX1_readSum 66 = .ok (.iconst 0, 1) := by decide +kernel
theorem dX1_readSum_67 : decode cX1_readSum 67 = .ok (.ireturn, 1) := by decide +kernel
theorem dX1_readSum_68 : decode cX1_readSum 68 = .ok (.aload_n 0, 1) := by decide +kernel
theorem dX1_readSum_69 : decode cX1_readSum 69 = .ok (.getfield 20, 3) := by decide +kernel
theorem dX1_readSum_72 : decode cX1_readSum 72 = .ok (.iload_n 3, 1) := by decide +kernel
theorem dX1_readSum_73 : decode cX1_readSum 73 = .ok (.invokevirtual 61, 3) := by decide +kernel
theorem dX1_readSum_76 : decode cX1_readSum 76 = .ok (.iinc 2 1, 3) := by decide +kernel
theorem dX1_readSum_79 : decode cX1_readSum 79 = .ok (.goto (-67), 3) := by decide +kernel
theorem dX1_readSum_82 : decode cX1_readSum 82 = .ok (.iconst 1, 1) := by decide +kernel
theorem dX1_readSum_83 : decode cX1_readSum 83 = .ok (.ireturn, 1) := by decide +kernel
theorem dX1_readTerm_0 : decode cX1_readTerm 0 = .ok (.aload_n 0, 1) := by decide +kernel
theorem dX1_readTerm_1 : decode cX1_readTerm 1 = .ok (.iload_n 1, 1) := by decide +kernel
theorem dX1_readTerm_2 : decode cX1_readTerm 2 = .ok (.invokevirtual 76, 3) := by decide +kernel
theorem dX1_readTerm_5 : decode cX1_readTerm 5 = .ok (.ifCond .ne 5, 3) := by decide +kernel
theorem dX1_readTerm_8 : decode cX1_readTerm 8 = .ok (.iconst 0, 1) := by decide +kernel
theorem dX1_readTerm_9 : decode cX1_readTerm 9 = .ok (.ireturn, 1) := by decide +kernel
theorem dX1_readTerm_10 : decode cX1_readTerm 10 = .ok (.iconst 0, 1) := by decide +kernel
theorem dX1_readTerm_11 : decode cX1_readTerm 11 = .ok (.istore_n 2, 1) := by decide +kernel
theorem dX1_readTerm_12 : decode cX1_readTerm 12 = .ok (.iload_n 2, 1) := by decide +kernel
theorem dX1_readTerm_13 : decode cX1_readTerm 13 = .ok (.sipush 160, 3) := by decide +kernel
theorem dX1_readTerm_16 : decode cX1_readTerm 16 = .ok (.if_icmp .ge 41, 3) := by decide +kernel
theorem dX1_readTerm_19 : decode cX1_readTerm 19 = .ok (.aload_n 0, 1) := by decide +kernel
theorem dX1_readTerm_20 : decode cX1_readTerm 20 = .ok (.getfield 41, 3) := by decide +kernel
theorem dX1_readTerm_23 : decode cX1_readTerm 23 = .ok (.bipush 42, 2) := by decide +kernel
theorem dX1_readTerm_25 : decode cX1_readTerm 25 = .ok (.if_icmp .ne 32, 3) := by decide +kernel
theorem dX1_readTerm_28 : decode cX1_readTerm 28 = .ok (.aload_n 0, 1) := by decide +kernel
theorem dX1_readTerm_29 : decode cX1_readTerm 29 = .ok (.invokevirtual 34, 3) := by decide +kernel
theorem dX1_readTerm_32 : decode cX1_readTerm 32 = .ok (.aload_n 0, 1) := by decide +kernel
theorem dX1_readTerm_33 : decode cX1_readTerm 33 = .ok (.iload_n 1, 1) := by decide +kernel
theorem dX1_readTerm_34 : decode cX1_readTerm 34 = .ok (.invokevirtual 76, 3) := by decide +kernel
theorem dX1_readTerm_37 : decode cX1_readTerm 37 = .ok (.ifCond .ne 5, 3) := by decide +kernel
theorem dX1_readTerm_40 : decode cX1_readTerm 40 = .ok (.iconst 0, 1) := by decide +kernel
theorem dX1_readTerm_41 : decode cX1_readTerm 41 = .ok (.ireturn, 1) := by decide +kernel
theorem dX1_readTerm_42 : decode cX1_readTerm 42 = .ok (.aload_n 0, 1) := by decide +kernel
theorem dX1_readTerm_43 : decode cX1_readTerm 43 = .ok (.getfield 20, 3) := by decide +kernel
theorem dX1_readTerm_46 : decode cX1_readTerm 46 = .ok (.bipush (-18), 2) := by decide +kernel
theorem dX1_readTerm_48 : decode cX1_readTerm 48 = .ok (.invokevirtual 61, 3) := by decide +kernel
theorem dX1_readTerm_51 : decode cX1_readTerm 51 = .ok (.iinc 2 1, 3) := by decide +kernel
theorem dX1_readTerm_54 : decode cX1_readTerm 54 = .ok (.goto (-42), 3) := by decide +kernel
theorem dX1_readTerm_57 : decode cX1_readTerm 57 = .ok (.iconst 1, 1) := by decide +kernel
theorem dX1_readTerm_58 : decode cX1_readTerm 58 = .ok (.ireturn, 1) := by decide +kernel
theorem dX1_readOne_0 : decode cX1_readOne 0 = .ok (.aload_n 0, 1) := by decide +kernel
theorem dX1_readOne_1 : decode cX1_readOne 1 = .ok (.getfield 41, 3) := by decide +kernel
theorem dX1_readOne_4 : decode cX1_readOne 4 = .ok (.bipush 10, 2) := by decide +kernel
theorem dX1_readOne_6 : decode cX1_readOne 6 = .ok (.if_icmp .lt 16, 3) := by decide +kernel
theorem dX1_readOne_9 : decode cX1_readOne 9 = .ok (.aload_n 0, 1) := by decide +kernel
theorem dX1_readOne_10 : decode cX1_readOne 10 = .ok (.getfield 41, 3) := by decide +kernel
theorem dX1_readOne_13 : decode cX1_readOne 13 = .ok (.bipush 16, 2) := by decide +kernel
theorem dX1_readOne_15 : decode cX1_readOne 15 = .ok (.if_icmp .ge 7, 3) := by decide +kernel
theorem dX1_readOne_18 : decode cX1_readOne 18 = .ok (.iconst 1, 1) := by decide +kernel
theorem dX1_readOne_19 : decode cX1_readOne 19 = .ok (.goto 4, 3) := by decide +kernel
theorem dX1_readOne_22 : decode cX1_readOne 22 = .ok (.iconst 0, 1) := by decide +kernel
theorem dX1_readOne_23 : decode cX1_readOne 23 = .ok (.istore_n 2, 1) := by decide +kernel
theorem dX1_readOne_24 : decode cX1_readOne 24 = .ok (.aload_n 0, 1) := by decide +kernel
theorem dX1_readOne_25 : decode cX1_readOne 25 = .ok (.getfield 41, 3) := by decide +kernel
theorem dX1_readOne_28 : decode cX1_readOne 28 = .ok (.iconst 2, 1) := by decide +kernel
theorem dX1_readOne_29 : decode cX1_readOne 29 = .ok (.if_icmp .eq 7, 3) := by decide +kernel
theorem dX1_readOne_32 : decode cX1_readOne 32 = .ok (.iload_n 2, 1) := by decide +kernel
theorem dX1_readOne_33 : decode cX1_readOne 33 = .ok (.ifCond .eq 34, 3) := by decide +kernel
theorem dX1_readOne_36 : decode cX1_readOne 36 = .ok (.aload_n 0, 1) := by decide +kernel
theorem dX1_readOne_37 : decode cX1_readOne 37 = .ok (.getfield 20, 3) := by decide +kernel
theorem dX1_readOne_40 : decode cX1_readOne 40 = .ok (.iload_n 2, 1) := by decide +kernel
theorem dX1_readOne_41 : decode cX1_readOne 41 = .ok (.ifCond .eq 13, 3) := by decide +kernel
theorem dX1_readOne_44 : decode cX1_readOne 44 = .ok (.bipush 9, 2) := by decide +kernel
theorem dX1_readOne_46 : decode cX1_readOne 46 = .ok (.aload_n 0, 1) := by decide +kernel
theorem dX1_readOne_47 : decode cX1_readOne 47 = .ok (.getfield 41, 3) := by decide +kernel
theorem dX1_readOne_50 : decode cX1_readOne 50 = .ok (.isub, 1) := by decide +kernel
theorem dX1_readOne_51 : decode cX1_readOne 51 = .ok (.goto 7, 3) := by decide +kernel
theorem dX1_readOne_54 : decode cX1_readOne 54 = .ok (.aload_n 0, 1) := by decide +kernel
theorem dX1_readOne_55 : decode cX1_readOne 55 = .ok (.getfield 79, 3) := by decide +kernel
theorem dX1_readOne_58 : decode cX1_readOne 58 = .ok (.invokevirtual 61, 3) := by decide +kernel
theorem dX1_readOne_61 : decode cX1_readOne 61 = .ok (.aload_n 0, 1) := by decide +kernel
theorem dX1_readOne_62 : decode cX1_readOne 62 = .ok (.invokevirtual 34, 3) := by decide +kernel
theorem dX1_readOne_65 : decode cX1_readOne 65 = .ok (.iconst 1, 1) := by decide +kernel
theorem dX1_readOne_66 : decode cX1_readOne 66 = .ok (.ireturn, 1) := by decide +kernel
theorem dX1_readOne_67 : decode cX1_readOne 67 = .ok (.iload_n 1, 1) := by decide +kernel
theorem dX1_readOne_68 : decode cX1_readOne 68 = .ok (.iconst 5, 1) := by decide +kernel
theorem dX1_readOne_69 : decode cX1_readOne 69 = .ok (.if_icmp .lt 5, 3) := by decide +kernel
theorem dX1_readOne_72 : decode cX1_readOne 72 = .ok (.iconst 0, 1) := by decide +kernel
theorem dX1_readOne_73 : decode cX1_readOne 73 = .ok (.ireturn, 1) := by decide +kernel
theorem dX1_readOne_74 : decode cX1_readOne 74 = .ok (.aload_n 0, 1) := by decide +kernel
theorem dX1_readOne_75 : decode cX1_readOne 75 = .ok (.getfield 41, 3) := by decide +kernel
theorem dX1_readOne_78 : decode cX1_readOne 78 = .ok (.bipush 45, 2) := by decide +kernel
theorem dX1_readOne_80 : decode cX1_readOne 80 = .ok (.if_icmp .ne 30, 3) := by decide +kernel
theorem dX1_readOne_83 : decode cX1_readOne 83 = .ok (.aload_n 0, 1) := by decide +kernel
theorem dX1_readOne_84 : decode cX1_readOne 84 = .ok (.invokevirtual 34, 3) := by decide +kernel
theorem dX1_readOne_87 : decode cX1_readOne 87 = .ok (.aload_n 0, 1) := by decide +kernel
theorem dX1_readOne_88 : decode cX1_readOne 88 = .ok (.iload_n 1, 1) := by decide +kernel
theorem dX1_readOne_89 : decode cX1_readOne 89 = .ok (.iconst 1, 1) := by decide +kernel
theorem dX1_readOne_90 : decode cX1_readOne 90 = .ok (.iadd, 1) := by decide +kernel
theorem dX1_readOne_91 : decode cX1_readOne 91 = .ok (.invokevirtual 76, 3) := by decide +kernel
theorem dX1_readOne_94 : decode cX1_readOne 94 = .ok (.ifCond .ne 5, 3) := by decide +kernel
theorem dX1_readOne_97 : decode cX1_readOne 97 = .ok (.iconst 0, 1) := by decide +kernel
theorem dX1_readOne_98 : decode cX1_readOne 98 = .ok (.ireturn, 1) := by decide +kernel
theorem dX1_readOne_99 : decode cX1_readOne 99 = .ok (.aload_n 0, 1) := by decide +kernel
theorem dX1_readOne_100 : decode cX1_readOne 100 = .ok (.getfield 20, 3) := by decide +kernel
theorem dX1_readOne_103 : decode cX1_readOne 103 = .ok (.bipush (-19), 2) := by decide +kernel
theorem dX1_readOne_105 : decode cX1_readOne 105 = .ok (.invokevirtual 61, 3) := by decide +kernel
theorem dX1_readOne_108 : decode cX1_readOne 108 = .ok (.iconst 1, 1) := by decide +kernel
theorem dX1_readOne_109 : decode cX1_readOne 109 = .ok (.ireturn, 1) := by decide +kernel
theorem dX1_readOne_110 : decode cX1_readOne 110 = .ok (.aload_n 0, 1) := by decide +kernel
theorem dX1_readOne_111 : decode cX1_readOne 111 = .ok (.getfield 41, 3) := by decide +kernel
theorem dX1_readOne_114 : decode cX1_readOne 114 = .ok (.bipush 40, 2) := by decide +kernel
theorem dX1_readOne_116 : decode cX1_readOne 116 = .ok (.if_icmp .eq 5, 3) := by decide +kernel
theorem dX1_readOne_119 : decode cX1_readOne 119 = .ok (.iconst 0, 1) := by decide +kernel
theorem dX1_readOne_120 : decode cX1_readOne 120 = .ok (.ireturn, 1) := by decide +kernel
theorem dX1_readOne_121 : decode cX1_readOne 121 = .ok (.aload_n 0, 1) := by decide +kernel
theorem dX1_readOne_122 : decode cX1_readOne 122 = .ok (.invokevirtual 34, 3) := by decide +kernel
theorem dX1_readOne_125 : decode cX1_readOne 125 = .ok (.aload_n 0, 1) := by decide +kernel
theorem dX1_readOne_126 : decode cX1_readOne 126 = .ok (.iload_n 1, 1) := by decide +kernel
theorem dX1_readOne_127 : decode cX1_readOne 127 = .ok (.iconst 1, 1) := by decide +kernel
theorem dX1_readOne_128 : decode cX1_readOne 128 = .ok (.iadd, 1) := by decide +kernel
theorem dX1_readOne_129 : decode cX1_readOne 129 = .ok (.invokevirtual 51, 3) := by decide +kernel
theorem dX1_readOne_132 : decode cX1_readOne 132 = .ok (.ifCond .eq 12, 3) := by decide +kernel
theorem dX1_readOne_135 : decode cX1_readOne 135 = .ok (.aload_n 0, 1) := by decide +kernel
theorem dX1_readOne_136 : decode cX1_readOne 136 = .ok (.getfield 41, 3) := by decide +kernel
theorem dX1_readOne_139 : decode cX1_readOne 139 = .ok (.bipush 41, 2) := by decide +kernel
theorem dX1_readOne_141 : decode cX1_readOne 141 = .ok (.if_icmp .eq 5, 3) := by decide +kernel
theorem dX1_readOne_144 : decode cX1_readOne 144 = .ok (.iconst 0, 1) := by decide +kernel
theorem dX1_readOne_145 : decode cX1_readOne 145 = .ok (.ireturn, 1) := by decide +kernel
theorem dX1_readOne_146 : decode cX1_readOne 146 = .ok (.aload_n 0, 1) := by decide +kernel
theorem dX1_readOne_147 : decode cX1_readOne 147 = .ok (.invokevirtual 34, 3) := by decide +kernel
theorem dX1_readOne_150 : decode cX1_readOne 150 = .ok (.iconst 1, 1) := by decide +kernel
theorem dX1_readOne_151 : decode cX1_readOne 151 = .ok (.ireturn, 1) := by decide +kernel
theorem dX1_step_0 : decode cX1_step 0 = .ok (.aload_n 0, 1) := by decide +kernel
theorem dX1_step_1 : decode cX1_step 1 = .ok (.aload_n 0, 1) := by decide +kernel
theorem dX1_step_2 : decode cX1_step 2 = .ok (.getfield 31, 3) := by decide +kernel
theorem dX1_step_5 : decode cX1_step 5 = .ok (.putfield 44, 3) := by decide +kernel
theorem dX1_step_8 : decode cX1_step 8 = .ok (.iconst 0, 1) := by decide +kernel
theorem dX1_step_9 : decode cX1_step 9 = .ok (.istore_n 1, 1) := by decide +kernel
theorem dX1_step_10 : decode cX1_step 10 = .ok (.iload_n 1, 1) := by decide +kernel
theorem dX1_step_11 : decode cX1_step 11 = .ok (.sipush 160, 3) := by decide +kernel
theorem dX1_step_14 : decode cX1_step 14 = .ok (.if_icmp .ge 45, 3) := by decide +kernel
theorem dX1_step_17 : decode cX1_step 17 = .ok (.aload_n 0, 1) := by decide +kernel
theorem dX1_step_18 : decode cX1_step 18 = .ok (.aload_n 0, 1) := by decide +kernel
theorem dX1_step_19 : decode cX1_step 19 = .ok (.getfield 44, 3) := by decide +kernel
theorem dX1_step_22 : decode cX1_step 22 = .ok (.invokevirtual 82, 3) := by decide +kernel
theorem dX1_step_25 : decode cX1_step 25 = .ok (.bipush 32, 2) := by decide +kernel
theorem dX1_step_27 : decode cX1_step 27 = .ok (.if_icmp .eq 16, 3) := by decide +kernel
theorem dX1_step_30 : decode cX1_step 30 = .ok (.aload_n 0, 1) := by decide +kernel
theorem dX1_step_31 : decode cX1_step 31 = .ok (.aload_n 0, 1) := by decide +kernel
theorem dX1_step_32 : decode cX1_step 32 = .ok (.getfield 44, 3) := by decide +kernel
theorem dX1_step_35 : decode cX1_step 35 = .ok (.invokevirtual 82, 3) := by decide +kernel
theorem dX1_step_38 : decode cX1_step 38 = .ok (.bipush 10, 2) := by decide +kernel
theorem dX1_step_40 : decode cX1_step 40 = .ok (.if_icmp .ne 19, 3) := by decide +kernel
theorem dX1_step_43 : decode cX1_step 43 = .ok (.aload_n 0, 1) := by decide +kernel
theorem dX1_step_44 : decode cX1_step 44 = .ok (.dup, 1) := by decide +kernel
theorem dX1_step_45 : decode cX1_step 45 = .ok (.getfield 44, 3) := by decide +kernel
theorem dX1_step_48 : decode cX1_step 48 = .ok (.iconst 1, 1) := by decide +kernel
theorem dX1_step_49 : decode cX1_step 49 = .ok (.iadd, 1) := by decide +kernel
theorem dX1_step_50 : decode cX1_step 50 = .ok (.putfield 44, 3) := by decide +kernel
theorem dX1_step_53 : decode cX1_step 53 = .ok (.iinc 1 1, 3) := by decide +kernel
theorem dX1_step_56 : decode cX1_step 56 = .ok (.goto (-46), 3) := by decide +kernel
theorem dX1_step_59 : decode cX1_step 59 = .ok (.aload_n 0, 1) := by decide +kernel
theorem dX1_step_60 : decode cX1_step 60 = .ok (.aload_n 0, 1) := by decide +kernel
theorem dX1_step_61 : decode cX1_step 61 = .ok (.getfield 44, 3) := by decide +kernel
theorem dX1_step_64 : decode cX1_step 64 = .ok (.putfield 31, 3) := by decide +kernel
theorem dX1_step_67 : decode cX1_step 67 = .ok (.aload_n 0, 1) := by decide +kernel
theorem dX1_step_68 : decode cX1_step 68 = .ok (.getfield 44, 3) := by decide +kernel
theorem dX1_step_71 : decode cX1_step 71 = .ok (.aload_n 0, 1) := by decide +kernel
theorem dX1_step_72 : decode cX1_step 72 = .ok (.getfield 24, 3) := by decide +kernel
theorem dX1_step_75 : decode cX1_step 75 = .ok (.if_icmp .lt 11, 3) := by decide +kernel
theorem dX1_step_78 : decode cX1_step 78 = .ok (.aload_n 0, 1) := by decide +kernel
theorem dX1_step_79 : decode cX1_step 79 = .ok (.iconst 0, 1) := by decide +kernel
theorem dX1_step_80 : decode cX1_step 80 = .ok (.putfield 41, 3) := by decide +kernel
theorem dX1_step_83 : decode cX1_step 83 = .ok (.goto 111, 3) := by decide +kernel
theorem dX1_step_86 : decode cX1_step 86 = .ok (.aload_n 0, 1) := by decide +kernel
theorem dX1_step_87 : decode cX1_step 87 = .ok (.aload_n 0, 1) := by decide +kernel
theorem dX1_step_88 : decode cX1_step 88 = .ok (.getfield 44, 3) := by decide +kernel
theorem dX1_step_91 : decode cX1_step 91 = .ok (.invokevirtual 82, 3) := by decide +kernel
theorem dX1_step_94 : decode cX1_step 94 = .ok (.bipush 97, 2) := by decide +kernel
theorem dX1_step_96 : decode cX1_step 96 = .ok (.if_icmp .lt 35, 3) := by decide +kernel
theorem dX1_step_99 : decode cX1_step 99 = .ok (.aload_n 0, 1) := by decide +kernel
theorem dX1_step_100 : decode cX1_step 100 = .ok (.aload_n 0, 1) := by decide +kernel
theorem dX1_step_101 : decode cX1_step 101 = .ok (.getfield 44, 3) := by decide +kernel
theorem dX1_step_104 : decode cX1_step 104 = .ok (.invokevirtual 82, 3) := by decide +kernel
theorem dX1_step_107 : decode cX1_step 107 = .ok (.bipush 122, 2) := by decide +kernel
theorem dX1_step_109 : decode cX1_step 109 = .ok (.if_icmp .gt 22, 3) := by decide +kernel
theorem dX1_step_112 : decode cX1_step 112 = .ok (.aload_n 0, 1) := by decide +kernel
theorem dX1_step_113 : decode cX1_step 113 = .ok (.bipush 97, 2) := by decide +kernel
theorem dX1_step_115 : decode cX1_step 115 = .ok (.bipush 122, 2) := by decide +kernel
theorem dX1_step_117 : decode cX1_step 117 = .ok (.invokevirtual 86, 3) := by decide +kernel
theorem dX1_step_120 : decode cX1_step 120 = .ok (.aload_n 0, 1) := by decide +kernel
theorem dX1_step_121 : decode cX1_step 121 = .ok (.aload_n 0, 1) := by decide +kernel
theorem dX1_step_122 : decode cX1_step 122 = .ok (.invokevirtual 90, 3) := by decide +kernel
theorem dX1_step_125 : decode cX1_step 125 = .ok (.putfield 41, 3) := by decide +kernel
theorem dX1_step_128 : decode cX1_step 128 = .ok (.goto 66, 3) := by decide +kernel
theorem dX1_step_131 : decode cX1_step 131 = .ok (.aload_n 0, 1) := by decide +kernel
theorem dX1_step_132 : decode cX1_step 132 = .ok (.aload_n 0, 1) := by decide +kernel
theorem dX1_step_133 : decode cX1_step 133 = .ok (.getfield 44, 3) := by decide +kernel
theorem dX1_step_136 : decode cX1_step 136 = .ok (.invokevirtual 82, 3) := by decide +kernel
theorem dX1_step_139 : decode cX1_step 139 = .ok (.bipush 48, 2) := by decide +kernel
theorem dX1_step_141 : decode cX1_step 141 = .ok (.if_icmp .lt 35, 3) := by decide +kernel
theorem dX1_step_144 : decode cX1_step 144 = .ok (.aload_n 0, 1) := by decide +kernel
theorem dX1_step_145 : decode cX1_step 145 = .ok (.aload_n 0, 1) := by decide +kernel
theorem dX1_step_146 : decode cX1_step 146 = .ok (.getfield 44, 3) := by decide +kernel
theorem dX1_step_149 : decode cX1_step 149 = .ok (.invokevirtual 82, 3) := by decide +kernel
theorem dX1_step_152 : decode cX1_step 152 = .ok (.bipush 57, 2) := by decide +kernel
theorem dX1_step_154 : decode cX1_step 154 = .ok (.if_icmp .gt 22, 3) := by decide +kernel
theorem dX1_step_157 : decode cX1_step 157 = .ok (.aload_n 0, 1) := by decide +kernel
theorem dX1_step_158 : decode cX1_step 158 = .ok (.bipush 48, 2) := by decide +kernel
theorem dX1_step_160 : decode cX1_step 160 = .ok (.bipush 57, 2) := by decide +kernel
theorem dX1_step_162 : decode cX1_step 162 = .ok (.invokevirtual 86, 3) := by decide +kernel
theorem dX1_step_165 : decode cX1_step 165 = .ok (.aload_n 0, 1) := by decide +kernel
theorem dX1_step_166 : decode cX1_step 166 = .ok (.aload_n 0, 1) := by decide +kernel
theorem dX1_step_167 : decode cX1_step 167 = .ok (.invokevirtual 94, 3) := by decide +kernel
theorem dX1_step_170 : decode cX1_step 170 = .ok (.putfield 41, 3) := by decide +kernel
theorem dX1_step_173 : decode cX1_step 173 = .ok (.goto 21, 3) := by decide +kernel
theorem dX1_step_176 : decode cX1_step 176 = .ok (.aload_n 0, 1) := by decide +kernel
theorem dX1_step_177 : decode cX1_step 177 = .ok (.aload_n 0, 1) := by decide +kernel
theorem dX1_step_178 : decode cX1_step 178 = .ok (.getfield 44, 3) := by decide +kernel
theorem dX1_step_181 : decode cX1_step 181 = .ok (.iconst 1, 1) := by decide +kernel
theorem dX1_step_182 : decode cX1_step 182 = .ok (.iadd, 1) := by decide +kernel
theorem dX1_step_183 : decode cX1_step 183 = .ok (.putfield 31, 3) := by decide +kernel
theorem dX1_step_186 : decode cX1_step 186 = .ok (.aload_n 0, 1) := by decide +kernel
theorem dX1_step_187 : decode cX1_step 187 = .ok (.aload_n 0, 1) := by decide +kernel
theorem dX1_step_188 : decode cX1_step 188 = .ok (.invokevirtual 97, 3) := by decide +kernel
theorem dX1_step_191 : decode cX1_step 191 = .ok (.putfield 41, 3) := by decide +kernel
theorem dX1_step_194 : decode cX1_step 194 = .ok (.return_, 1) := by decide +kernel
theorem dX1_skip_0 : decode cX1_skip 0 = .ok (.iconst 0, 1) := by decide +kernel
theorem dX1_skip_1 : decode cX1_skip 1 = .ok (.istore_n 3, 1) := by decide +kernel
theorem dX1_skip_2 : decode cX1_skip 2 = .ok (.iload_n 3, 1) := by decide +kernel
theorem dX1_skip_3 : decode cX1_skip 3 = .ok (.sipush 160, 3) := by decide +kernel
theorem dX1_skip_6 : decode cX1_skip 6 = .ok (.if_icmp .ge 43, 3) := by decide +kernel
theorem dX1_skip_9 : decode cX1_skip 9 = .ok (.aload_n 0, 1) := by decide +kernel
theorem dX1_skip_10 : decode cX1_skip 10 = .ok (.aload_n 0, 1) := by decide +kernel
theorem dX1_skip_11 : decode cX1_skip 11 = .ok (.getfield 31, 3) := by decide +kernel
theorem dX1_skip_14 : decode cX1_skip 14 = .ok (.invokevirtual 82, 3) := by decide +kernel
theorem dX1_skip_17 : decode cX1_skip 17 = .ok (.iload_n 1, 1) := by decide +kernel
theorem dX1_skip_18 : decode cX1_skip 18 = .ok (.if_icmp .lt 31, 3) := by decide +kernel
theorem dX1_skip_21 : decode cX1_skip 21 = .ok (.aload_n 0, 1) := by decide +kernel
theorem dX1_skip_22 : decode cX1_skip 22 = .ok (.aload_n 0, 1) := by decide +kernel
theorem dX1_skip_23 : decode cX1_skip 23 = .ok (.getfield 31, 3) := by decide +kernel
theorem dX1_skip_26 : decode cX1_skip 26 = .ok (.invokevirtual 82, 3) := by decide +kernel
theorem dX1_skip_29 : decode cX1_skip 29 = .ok (.iload_n 2, 1) := by decide +kernel
theorem dX1_skip_30 : decode cX1_skip 30 = .ok (.if_icmp .gt 19, 3) := by decide +kernel
theorem dX1_skip_33 : decode cX1_skip 33 = .ok (.aload_n 0, 1) := by decide +kernel
theorem dX1_skip_34 : decode cX1_skip 34 = .ok (.dup, 1) := by decide +kernel
theorem dX1_skip_35 : decode cX1_skip 35 = .ok (.getfield 31, 3) := by decide +kernel
theorem dX1_skip_38 : decode cX1_skip 38 = .ok (.iconst 1, 1) := by decide +kernel
theorem dX1_skip_39 : decode cX1_skip 39 = .ok (.iadd, 1) := by decide +kernel
theorem dX1_skip_40 : decode cX1_skip 40 = .ok (.putfield 31, 3) := by decide +kernel
theorem dX1_skip_43 : decode cX1_skip 43 = .ok (.iinc 3 1, 3) := by decide +kernel
theorem dX1_skip_46 : decode cX1_skip 46 = .ok (.goto (-44), 3) := by decide +kernel
theorem dX1_skip_49 : decode cX1_skip 49 = .ok (.return_, 1) := by decide +kernel
theorem dX1_byteAt_0 : decode cX1_byteAt 0 = .ok (.iload_n 1, 1) := by decide +kernel
theorem dX1_byteAt_1 : decode cX1_byteAt 1 = .ok (.ifCond .lt 27, 3) := by decide +kernel
theorem dX1_byteAt_4 : decode cX1_byteAt 4 = .ok (.iload_n 1, 1) := by decide +kernel
theorem dX1_byteAt_5 : decode cX1_byteAt 5 = .ok (.aload_n 0, 1) := by decide +kernel
theorem dX1_byteAt_6 : decode cX1_byteAt 6 = .ok (.getfield 24, 3) := by decide +kernel
theorem dX1_byteAt_9 : decode cX1_byteAt 9 = .ok (.if_icmp .ge 19, 3) := by decide +kernel
theorem dX1_byteAt_12 : decode cX1_byteAt 12 = .ok (.iload_n 1, 1) := by decide +kernel
theorem dX1_byteAt_13 : decode cX1_byteAt 13 = .ok (.sipush 160, 3) := by decide +kernel
theorem dX1_byteAt_16 : decode cX1_byteAt 16 = .ok (.if_icmp .ge 12, 3) := by decide +kernel
theorem dX1_byteAt_19 : decode cX1_byteAt 19 = .ok (.aload_n 0, 1) := by decide +kernel
theorem dX1_byteAt_20 : decode cX1_byteAt 20 = .ok (.getfield 9, 3) := by decide +kernel
theorem dX1_byteAt_23 : decode cX1_byteAt 23 = .ok (.iload_n 1, 1) := by decide +kernel
theorem dX1_byteAt_24 : decode cX1_byteAt 24 = .ok (.iaload, 1) := by decide +kernel
theorem dX1_byteAt_25 : decode cX1_byteAt 25 = .ok (.goto 4, 3) := by decide +kernel
theorem dX1_byteAt_28 : decode cX1_byteAt 28 = .ok (.iconst (-1), 1) := by decide +kernel
theorem dX1_byteAt_29 : decode cX1_byteAt 29 = .ok (.ireturn, 1) := by decide +kernel
theorem dX1_signAt_0 : decode cX1_signAt 0 = .ok (.aload_n 0, 1) := by decide +kernel
theorem dX1_signAt_1 : decode cX1_signAt 1 = .ok (.aload_n 0, 1) := by decide +kernel
theorem dX1_signAt_2 : decode cX1_signAt 2 = .ok (.getfield 44, 3) := by decide +kernel
theorem dX1_signAt_5 : decode cX1_signAt 5 = .ok (.invokevirtual 82, 3) := by decide +kernel
theorem dX1_signAt_8 : decode cX1_signAt 8 = .ok (.istore_n 1, 1) := by decide +kernel
theorem dX1_signAt_9 : decode cX1_signAt 9 = .ok (.iload_n 1, 1) := by decide +kernel
theorem dX1_signAt_10 : decode cX1_signAt 10 = .ok (.tableswitch 104 40 61 #[102, 102, 102, 102, 104, 102, 104, 104, 104, 104, 104, 104, 104, 104, 104, 104, 104, 104, 104, 102, 102, 102], 102) := by decide +kernel
theorem dX1_signAt_112 : decode cX1_signAt 112 = .ok (.iload_n 1, 1) := by decide +kernel
theorem dX1_signAt_113 : decode cX1_signAt 113 = .ok (.ireturn, 1) := by decide +kernel
theorem dX1_signAt_114 : decode cX1_signAt 114 = .ok (.iconst 1, 1) := by decide +kernel
theorem dX1_signAt_115 : decode cX1_signAt 115 = .ok (.ireturn, 1) := by decide +kernel
theorem dX1_numberAt_0 : decode cX1_numberAt 0 = .ok (.aload_n 0, 1) := by decide +kernel
theorem dX1_numberAt_1 : decode cX1_numberAt 1 = .ok (.getfield 31, 3) := by decide +kernel
theorem dX1_numberAt_4 : decode cX1_numberAt 4 = .ok (.aload_n 0, 1) := by decide +kernel
theorem dX1_numberAt_5 : decode cX1_numberAt 5 = .ok (.getfield 44, 3) := by decide +kernel
theorem dX1_numberAt_8 : decode cX1_numberAt 8 = .ok (.isub, 1) := by decide +kernel
theorem dX1_numberAt_9 : decode cX1_numberAt 9 = .ok (.iconst 4, 1) := by decide +kernel
theorem dX1_numberAt_10 : decode cX1_numberAt 10 = .ok (.if_icmp .le 5, 3) := by decide +kernel
theorem dX1_numberAt_13 : decode cX1_numberAt 13 = .ok (.iconst 1, 1) := by decide +kernel
theorem dX1_numberAt_14 : decode cX1_numberAt 14 = .ok (.ireturn, 1) := by decide +kernel
theorem dX1_numberAt_15 : decode cX1_numberAt 15 = .ok (.aload_n 0, 1) := by decide +kernel
theorem dX1_numberAt_16 : decode cX1_numberAt 16 = .ok (.iconst 0, 1) := by decide +kernel
theorem dX1_numberAt_17 : decode cX1_numberAt 17 = .ok (.putfield 79, 3) := by decide +kernel
theorem dX1_numberAt_20 : decode cX1_numberAt 20 = .ok (.aload_n 0, 1) := by decide +kernel
theorem dX1_numberAt_21 : decode cX1_numberAt 21 = .ok (.getfield 44, 3) := by decide +kernel
theorem dX1_numberAt_24 : decode cX1_numberAt 24 = .ok (.istore_n 1, 1) := by decide +kernel
theorem dX1_numberAt_25 : decode cX1_numberAt 25 = .ok (.iload_n 1, 1) := by decide +kernel
theorem dX1_numberAt_26 : decode cX1_numberAt 26 = .ok (.aload_n 0, 1) := by decide +kernel
theorem dX1_numberAt_27 : decode cX1_numberAt 27 = .ok (.getfield 31, 3) := by decide +kernel
theorem dX1_numberAt_30 : decode cX1_numberAt 30 = .ok (.if_icmp .ge 29, 3) := by decide +kernel
theorem dX1_numberAt_33 : decode cX1_numberAt 33 = .ok (.aload_n 0, 1) := by decide +kernel
theorem dX1_numberAt_34 : decode cX1_numberAt 34 = .ok (.bipush 10, 2) := by decide +kernel
theorem dX1_numberAt_36 : decode cX1_numberAt 36 = .ok (.aload_n 0, 1) := by decide +kernel
theorem dX1_numberAt_37 : decode cX1_numberAt 37 = .ok (.getfield 79, 3) := by decide +kernel
theorem dX1_numberAt_40 : decode cX1_numberAt 40 = .ok (.imul, 1) := by decide +kernel
theorem dX1_numberAt_41 : decode cX1_numberAt 41 = .ok (.aload_n 0, 1) := by decide +kernel
theorem dX1_numberAt_42 : decode cX1_numberAt 42 = .ok (.iload_n 1, 1) := by decide +kernel
theorem dX1_numberAt_43 : decode cX1_numberAt 43 = .ok (.invokevirtual 82, 3) := by decide +kernel
theorem dX1_numberAt_46 : decode cX1_numberAt 46 = .ok (.iadd, 1) := by decide +kernel
theorem dX1_numberAt_47 : decode cX1_numberAt 47 = .ok (.bipush 48, 2) := by decide +kernel
theorem dX1_numberAt_49 : decode cX1_numberAt 49 = .ok (.isub, 1) := by decide +kernel
theorem dX1_numberAt_50 : decode cX1_numberAt 50 = .ok (.putfield 79, 3) := by decide +kernel
theorem dX1_numberAt_53 : decode cX1_numberAt 53 = .ok (.iinc 1 1, 3) := by decide +kernel
theorem dX1_numberAt_56 : decode cX1_numberAt 56 = .ok (.goto (-31), 3) := by decide +kernel
theorem dX1_numberAt_59 : decode cX1_numberAt 59 = .ok (.iconst 2, 1) := by decide +kernel
theorem dX1_numberAt_60 : decode cX1_numberAt 60 = .ok (.ireturn, 1) := by decide +kernel
section SIM
variable {p : Program} {l : Launch} {e : Env} {R : Room} {s : State} {m : MethodId} {args : Array Value} {below : List Frame} {meth : Method} {c : Code} {D : va_G} {cA : Nat → ClassId} {ad : Nat → Nat} {bs n0 z0 d : Nat} {H0 : Heap} {rv : Option Value} {hf : aM} {E : Nat → List Value → aM → Option Value → aM → Prop} {X : aXt × Value}

set_option maxHeartbeats 4000000 in
set_option maxRecDepth 20000 in
theorem sm_X0_init (hC : aC p s m args c cX0_init 1 RX0 D cA ad bs n0 H0 X) (hF : ∀ ml, ml ≤ 41 → aFit R d ml) (hRm : 16 ≤ R.frames ∧ 1000 ≤ R.locals) (hE : aCalls l D cA ad bs X d E) (hr : meth.sig.returnType = none) (hlk : meth.locks = false) (hin : meth.name = "<init>") : aSims (fun f i => aSim p l e R s m args below meth c (aEnd below s args D cA ad bs n0 z0 rv hf) 1 D cA ad bs n0 z0 H0 (apc pc_X0_init) rv hf E f i) (cd_X0_init) 0 := by
  unfold cd_X0_init
  refine aSims_c (i := 0) (s_aload_n hC dX0_init_0 rfl rfl) ?_
  refine aSims_c (i := 1) (s_objinit hC hRm dX0_init_1 rfl rfl w_183 ⟨w_117, w_118⟩) ?_
  refine aSims_c (i := 2) (s_aload_n hC dX0_init_4 rfl rfl) ?_
  refine aSims_c (i := 3) (s_bipush hC dX0_init_5 rfl rfl rfl) ?_
  refine aSims_c (i := 4) (s_newarray (t0 := 0) hC dX0_init_7 rfl rfl rfl (by decide) w_150) ?_
  refine aSims_c (i := 5) (s_putF hC dX0_init_9 rfl rfl w_195 rfl rfl inB0 tyX0_ok nmX0 (by decide) rfl rfl hin) ?_
  refine aSims_c (i := 6) (s_vret hC dX0_init_12 rfl hr hlk) ?_
  exact aSims_n
set_option maxHeartbeats 4000000 in
set_option maxRecDepth 20000 in
theorem sm_X0_begin (hC : aC p s m args c cX0_begin 3 RX0 D cA ad bs n0 H0 X) (hF : ∀ ml, ml ≤ 41 → aFit R d ml) (hRm : 16 ≤ R.frames ∧ 1000 ≤ R.locals) (hE : aCalls l D cA ad bs X d E) (hr : meth.sig.returnType = none) (hlk : meth.locks = false) : aSims (fun f i => aSim p l e R s m args below meth c (aEnd below s args D cA ad bs n0 z0 rv hf) 3 D cA ad bs n0 z0 H0 (apc pc_X0_begin) rv hf E f i) (cd_X0_begin) 0 := by
  unfold cd_X0_begin
  refine aSims_c (i := 0) (s_aload_n hC dX0_begin_0 rfl rfl) ?_
  refine aSims_c (i := 1) (s_iload_n hC dX0_begin_1 rfl rfl) ?_
  refine aSims_c (i := 2) (s_put hC dX0_begin_2 rfl rfl w_184 rfl rfl inB0 tyX0_ok nmX0 (by decide) rfl) ?_
  refine aSims_c (i := 3) (s_aload_n hC dX0_begin_5 rfl rfl) ?_
  refine aSims_c (i := 4) (s_iload_n hC dX0_begin_6 rfl rfl) ?_
  refine aSims_c (i := 5) (s_put hC dX0_begin_7 rfl rfl w_186 rfl rfl inB0 tyX0_ok nmX0 (by decide) rfl) ?_
  refine aSims_c (i := 6) (s_aload_n hC dX0_begin_10 rfl rfl) ?_
  refine aSims_c (i := 7) (s_iconst hC dX0_begin_11 rfl rfl rfl) ?_
  refine aSims_c (i := 8) (s_put hC dX0_begin_12 rfl rfl w_189 rfl rfl inB0 tyX0_ok nmX0 (by decide) rfl) ?_
  refine aSims_c (i := 9) (s_aload_n hC dX0_begin_15 rfl rfl) ?_
  refine aSims_c (i := 10) (s_iconst hC dX0_begin_16 rfl rfl rfl) ?_
  refine aSims_c (i := 11) (s_put hC dX0_begin_17 rfl rfl w_191 rfl rfl inB0 tyX0_ok nmX0 (by decide) rfl) ?_
  refine aSims_c (i := 12) (s_aload_n hC dX0_begin_20 rfl rfl) ?_
  refine aSims_c (i := 13) (s_get hC dX0_begin_21 rfl rfl w_195 rfl rfl inB0 (by decide)) ?_
  refine aSims_c (i := 14) (s_iconst hC dX0_begin_24 rfl rfl rfl) ?_
  refine aSims_c (i := 15) (s_callS hC dX0_begin_25 rfl rfl (hE 223 _ _ _ _ rfl) (hF _ (by decide)) w_292 w_518 w_291 w_105 (by decide +kernel)) ?_
  refine aSims_c (i := 16) (s_vret hC dX0_begin_28 rfl hr hlk) ?_
  exact aSims_n
set_option maxHeartbeats 4000000 in
set_option maxRecDepth 20000 in
theorem sm_X0_become (hC : aC p s m args c cX0_become 2 RX0 D cA ad bs n0 H0 X) (hF : ∀ ml, ml ≤ 41 → aFit R d ml) (hRm : 16 ≤ R.frames ∧ 1000 ≤ R.locals) (hE : aCalls l D cA ad bs X d E) (hr : meth.sig.returnType = none) (hlk : meth.locks = false) : aSims (fun f i => aSim p l e R s m args below meth c (aEnd below s args D cA ad bs n0 z0 rv hf) 2 D cA ad bs n0 z0 H0 (apc pc_X0_become) rv hf E f i) (cd_X0_become) 0 := by
  unfold cd_X0_become
  refine aSims_c (i := 0) (s_aload_n hC dX0_become_0 rfl rfl) ?_
  refine aSims_c (i := 1) (s_aload_n hC dX0_become_1 rfl rfl) ?_
  refine aSims_c (i := 2) (s_get hC dX0_become_2 rfl rfl w_184 rfl rfl inB0 (by decide)) ?_
  refine aSims_c (i := 3) (s_put hC dX0_become_5 rfl rfl w_184 rfl rfl inB0 tyX0_ok nmX0 (by decide) rfl) ?_
  refine aSims_c (i := 4) (s_aload_n hC dX0_become_8 rfl rfl) ?_
  refine aSims_c (i := 5) (s_aload_n hC dX0_become_9 rfl rfl) ?_
  refine aSims_c (i := 6) (s_get hC dX0_become_10 rfl rfl w_186 rfl rfl inB0 (by decide)) ?_
  refine aSims_c (i := 7) (s_put hC dX0_become_13 rfl rfl w_186 rfl rfl inB0 tyX0_ok nmX0 (by decide) rfl) ?_
  refine aSims_c (i := 8) (s_aload_n hC dX0_become_16 rfl rfl) ?_
  refine aSims_c (i := 9) (s_aload_n hC dX0_become_17 rfl rfl) ?_
  refine aSims_c (i := 10) (s_get hC dX0_become_18 rfl rfl w_189 rfl rfl inB0 (by decide)) ?_
  refine aSims_c (i := 11) (s_put hC dX0_become_21 rfl rfl w_189 rfl rfl inB0 tyX0_ok nmX0 (by decide) rfl) ?_
  refine aSims_c (i := 12) (s_aload_n hC dX0_become_24 rfl rfl) ?_
  refine aSims_c (i := 13) (s_aload_n hC dX0_become_25 rfl rfl) ?_
  refine aSims_c (i := 14) (s_get hC dX0_become_26 rfl rfl w_191 rfl rfl inB0 (by decide)) ?_
  refine aSims_c (i := 15) (s_put hC dX0_become_29 rfl rfl w_191 rfl rfl inB0 tyX0_ok nmX0 (by decide) rfl) ?_
  refine aSims_c (i := 16) (s_aload_n hC dX0_become_32 rfl rfl) ?_
  refine aSims_c (i := 17) (s_get hC dX0_become_33 rfl rfl w_195 rfl rfl inB0 (by decide)) ?_
  refine aSims_c (i := 18) (s_iconst hC dX0_become_36 rfl rfl rfl) ?_
  refine aSims_c (i := 19) (s_aload_n hC dX0_become_37 rfl rfl) ?_
  refine aSims_c (i := 20) (s_get hC dX0_become_38 rfl rfl w_195 rfl rfl inB0 (by decide)) ?_
  refine aSims_c (i := 21) (s_iconst hC dX0_become_41 rfl rfl rfl) ?_
  refine aSims_c (i := 22) (s_bipush hC dX0_become_42 rfl rfl rfl) ?_
  refine aSims_c (i := 23) (s_arraycopy hC hRm dX0_become_44 rfl rfl w_654 ⟨w_381, w_380, w_106⟩) ?_
  refine aSims_c (i := 24) (s_vret hC dX0_become_47 rfl hr hlk) ?_
  exact aSims_n
set_option maxHeartbeats 4000000 in
set_option maxRecDepth 20000 in
theorem sm_X0_valueOf (hC : aC p s m args c cX0_valueOf 2 RX0 D cA ad bs n0 H0 X) (hF : ∀ ml, ml ≤ 41 → aFit R d ml) (hRm : 16 ≤ R.frames ∧ 1000 ≤ R.locals) (hE : aCalls l D cA ad bs X d E) (hr : meth.sig.returnType = (some .int)) (hlk : meth.locks = false) : aSims (fun f i => aSim p l e R s m args below meth c (aEnd below s args D cA ad bs n0 z0 rv hf) 2 D cA ad bs n0 z0 H0 (apc pc_X0_valueOf) rv hf E f i) (cd_X0_valueOf) 0 := by
  unfold cd_X0_valueOf
  refine aSims_c (i := 0) (s_iload_n hC dX0_valueOf_0 rfl rfl) ?_
  refine aSims_c (i := 1) (s_switch hC dX0_valueOf_1 rfl rfl rfl rfl (aSw_in (by decide +kernel)) (fun j hj => anth_none hj)) ?_
  refine aSims_c (i := 2) (s_aload_n hC dX0_valueOf_32 rfl rfl) ?_
  refine aSims_c (i := 3) (s_get hC dX0_valueOf_33 rfl rfl w_186 rfl rfl inB0 (by decide)) ?_
  refine aSims_c (i := 4) (s_iret hC dX0_valueOf_36 rfl hr hlk nar_qI) ?_
  refine aSims_c (i := 5) (s_aload_n hC dX0_valueOf_37 rfl rfl) ?_
  refine aSims_c (i := 6) (s_get hC dX0_valueOf_38 rfl rfl w_189 rfl rfl inB0 (by decide)) ?_
  refine aSims_c (i := 7) (s_iret hC dX0_valueOf_41 rfl hr hlk nar_qI) ?_
  refine aSims_c (i := 8) (s_aload_n hC dX0_valueOf_42 rfl rfl) ?_
  refine aSims_c (i := 9) (s_get hC dX0_valueOf_43 rfl rfl w_191 rfl rfl inB0 (by decide)) ?_
  refine aSims_c (i := 10) (s_iret hC dX0_valueOf_46 rfl hr hlk nar_qI) ?_
  refine aSims_c (i := 11) (s_aload_n hC dX0_valueOf_47 rfl rfl) ?_
  refine aSims_c (i := 12) (s_get hC dX0_valueOf_48 rfl rfl w_184 rfl rfl inB0 (by decide)) ?_
  refine aSims_c (i := 13) (s_iret hC dX0_valueOf_51 rfl hr hlk nar_qI) ?_
  refine aSims_c (i := 14) (s_iload_n hC dX0_valueOf_52 rfl rfl) ?_
  refine aSims_c (i := 15) (s_bipush hC dX0_valueOf_53 rfl rfl rfl) ?_
  refine aSims_c (i := 16) (s_icmp_lt hC dX0_valueOf_55 rfl rfl rfl) ?_
  refine aSims_c (i := 17) (s_iload_n hC dX0_valueOf_58 rfl rfl) ?_
  refine aSims_c (i := 18) (s_bipush hC dX0_valueOf_59 rfl rfl rfl) ?_
  refine aSims_c (i := 19) (s_isub hC dX0_valueOf_61 rfl rfl) ?_
  refine aSims_c (i := 20) (s_callSN hC dX0_valueOf_62 rfl rfl (hE 106 _ _ _ _ rfl) (hF _ (by decide)) w_489 hC.2.2.2.2.2.2.2.2.1.1.1 w_488 w_96 (by decide +kernel)) ?_
  refine aSims_c (i := 21) (s_if_eq hC dX0_valueOf_65 rfl rfl rfl) ?_
  refine aSims_c (i := 22) (s_aload_n hC dX0_valueOf_68 rfl rfl) ?_
  refine aSims_c (i := 23) (s_get hC dX0_valueOf_69 rfl rfl w_195 rfl rfl inB0 (by decide)) ?_
  refine aSims_c (i := 24) (s_iload_n hC dX0_valueOf_72 rfl rfl) ?_
  refine aSims_c (i := 25) (s_bipush hC dX0_valueOf_73 rfl rfl rfl) ?_
  refine aSims_c (i := 26) (s_isub hC dX0_valueOf_75 rfl rfl) ?_
  refine aSims_c (i := 27) (s_iaload hC hX0 dX0_valueOf_76 rfl rfl) ?_
  refine aSims_c (i := 28) (s_goto hC dX0_valueOf_77 rfl rfl) ?_
  refine aSims_c (i := 29) (s_bipush hC dX0_valueOf_80 rfl rfl rfl) ?_
  refine aSims_c (i := 30) (s_iret hC dX0_valueOf_82 rfl hr hlk nar_qI) ?_
  exact aSims_n
set_option maxHeartbeats 4000000 in
set_option maxRecDepth 20000 in
theorem sm_X0_put (hC : aC p s m args c cX0_put 4 RX0 D cA ad bs n0 H0 X) (hF : ∀ ml, ml ≤ 41 → aFit R d ml) (hRm : 16 ≤ R.frames ∧ 1000 ≤ R.locals) (hE : aCalls l D cA ad bs X d E) (hr : meth.sig.returnType = (some .int)) (hlk : meth.locks = false) : aSims (fun f i => aSim p l e R s m args below meth c (aEnd below s args D cA ad bs n0 z0 rv hf) 4 D cA ad bs n0 z0 H0 (apc pc_X0_put) rv hf E f i) (cd_X0_put) 0 := by
  unfold cd_X0_put
  refine aSims_c (i := 0) (s_aload_n hC dX0_put_0 rfl rfl) ?_
  refine aSims_c (i := 1) (s_iload_n hC dX0_put_1 rfl rfl) ?_
  refine aSims_c (i := 2) (s_callV (n := 1) hC dX0_put_2 rfl rfl (hE 3 _ _ _ _ rfl) (hF _ (by decide)) w_501 w_498 w_499 w_500 w_99 rfl (by decide +kernel)) ?_
  refine aSims_c (i := 3) (s_istore_n hC dX0_put_5 rfl rfl) ?_
  refine aSims_c (i := 4) (s_iload_n hC dX0_put_6 rfl rfl) ?_
  refine aSims_c (i := 5) (s_bipush hC dX0_put_7 rfl rfl rfl) ?_
  refine aSims_c (i := 6) (s_icmp_eq hC dX0_put_9 rfl rfl rfl) ?_
  refine aSims_c (i := 7) (s_iload_n hC dX0_put_12 rfl rfl) ?_
  refine aSims_c (i := 8) (s_if_lt hC dX0_put_13 rfl rfl rfl) ?_
  refine aSims_c (i := 9) (s_iload_n hC dX0_put_16 rfl rfl) ?_
  refine aSims_c (i := 10) (s_iload_n hC dX0_put_17 rfl rfl) ?_
  refine aSims_c (i := 11) (s_callS hC dX0_put_18 rfl rfl (hE 5 _ _ _ _ rfl) (hF _ (by decide)) w_505 w_503 w_504 w_99 (by decide +kernel)) ?_
  refine aSims_c (i := 12) (s_icmp_le hC dX0_put_21 rfl rfl rfl) ?_
  refine aSims_c (i := 13) (s_bipush hC dX0_put_24 rfl rfl rfl) ?_
  refine aSims_c (i := 14) (s_iret hC dX0_put_26 rfl hr hlk nar_qI) ?_
  refine aSims_c (i := 15) (s_iload_n hC dX0_put_27 rfl rfl) ?_
  refine aSims_c (i := 16) (s_iconst hC dX0_put_28 rfl rfl rfl) ?_
  refine aSims_c (i := 17) (s_icmp_ne hC dX0_put_29 rfl rfl rfl) ?_
  refine aSims_c (i := 18) (s_aload_n hC dX0_put_32 rfl rfl) ?_
  refine aSims_c (i := 19) (s_iload_n hC dX0_put_33 rfl rfl) ?_
  refine aSims_c (i := 20) (s_put hC dX0_put_34 rfl rfl w_186 rfl rfl inB0 tyX0_ok nmX0 (by decide) rfl) ?_
  refine aSims_c (i := 21) (s_goto hC dX0_put_37 rfl rfl) ?_
  refine aSims_c (i := 22) (s_iload_n hC dX0_put_40 rfl rfl) ?_
  refine aSims_c (i := 23) (s_iconst hC dX0_put_41 rfl rfl rfl) ?_
  refine aSims_c (i := 24) (s_icmp_ne hC dX0_put_42 rfl rfl rfl) ?_
  refine aSims_c (i := 25) (s_aload_n hC dX0_put_45 rfl rfl) ?_
  refine aSims_c (i := 26) (s_iload_n hC dX0_put_46 rfl rfl) ?_
  refine aSims_c (i := 27) (s_put hC dX0_put_47 rfl rfl w_189 rfl rfl inB0 tyX0_ok nmX0 (by decide) rfl) ?_
  refine aSims_c (i := 28) (s_goto hC dX0_put_50 rfl rfl) ?_
  refine aSims_c (i := 29) (s_iload_n hC dX0_put_53 rfl rfl) ?_
  refine aSims_c (i := 30) (s_iconst hC dX0_put_54 rfl rfl rfl) ?_
  refine aSims_c (i := 31) (s_icmp_ne hC dX0_put_55 rfl rfl rfl) ?_
  refine aSims_c (i := 32) (s_aload_n hC dX0_put_58 rfl rfl) ?_
  refine aSims_c (i := 33) (s_iload_n hC dX0_put_59 rfl rfl) ?_
  refine aSims_c (i := 34) (s_put hC dX0_put_60 rfl rfl w_191 rfl rfl inB0 tyX0_ok nmX0 (by decide) rfl) ?_
  refine aSims_c (i := 35) (s_goto hC dX0_put_63 rfl rfl) ?_
  refine aSims_c (i := 36) (s_iload_n hC dX0_put_66 rfl rfl) ?_
  refine aSims_c (i := 37) (s_bipush hC dX0_put_67 rfl rfl rfl) ?_
  refine aSims_c (i := 38) (s_icmp_lt hC dX0_put_69 rfl rfl rfl) ?_
  refine aSims_c (i := 39) (s_iload_n hC dX0_put_72 rfl rfl) ?_
  refine aSims_c (i := 40) (s_bipush hC dX0_put_73 rfl rfl rfl) ?_
  refine aSims_c (i := 41) (s_isub hC dX0_put_75 rfl rfl) ?_
  refine aSims_c (i := 42) (s_callSN hC dX0_put_76 rfl rfl (hE 106 _ _ _ _ rfl) (hF _ (by decide)) w_489 hC.2.2.2.2.2.2.2.2.1.1.1 w_488 w_96 (by decide +kernel)) ?_
  refine aSims_c (i := 43) (s_if_eq hC dX0_put_79 rfl rfl rfl) ?_
  refine aSims_c (i := 44) (s_aload_n hC dX0_put_82 rfl rfl) ?_
  refine aSims_c (i := 45) (s_get hC dX0_put_83 rfl rfl w_195 rfl rfl inB0 (by decide)) ?_
  refine aSims_c (i := 46) (s_iload_n hC dX0_put_86 rfl rfl) ?_
  refine aSims_c (i := 47) (s_bipush hC dX0_put_87 rfl rfl rfl) ?_
  refine aSims_c (i := 48) (s_isub hC dX0_put_89 rfl rfl) ?_
  refine aSims_c (i := 49) (s_iload_n hC dX0_put_90 rfl rfl) ?_
  refine aSims_c (i := 50) (s_iastore hC dX0_put_91 rfl rfl) ?_
  refine aSims_c (i := 51) (s_iload_n hC dX0_put_92 rfl rfl) ?_
  refine aSims_c (i := 52) (s_iret hC dX0_put_93 rfl hr hlk nar_qI) ?_
  exact aSims_n
set_option maxHeartbeats 4000000 in
set_option maxRecDepth 20000 in
theorem sm_X0_mostOf (hC : aC p s m args c cX0_mostOf 1 RX0 D cA ad bs n0 H0 X) (hF : ∀ ml, ml ≤ 41 → aFit R d ml) (hRm : 16 ≤ R.frames ∧ 1000 ≤ R.locals) (hE : aCalls l D cA ad bs X d E) (hr : meth.sig.returnType = (some .int)) (hlk : meth.locks = false) : aSims (fun f i => aSim p l e R s m args below meth c (aEnd below s args D cA ad bs n0 z0 rv hf) 1 D cA ad bs n0 z0 H0 (apc pc_X0_mostOf) rv hf E f i) (cd_X0_mostOf) 0 := by
  unfold cd_X0_mostOf
  refine aSims_c (i := 0) (s_iload_n hC dX0_mostOf_0 rfl rfl) ?_
  refine aSims_c (i := 1) (s_switch hC dX0_mostOf_1 rfl rfl rfl rfl (aSw_in (by decide +kernel)) (fun j hj => anth_none hj)) ?_
  refine aSims_c (i := 2) (s_bipush hC dX0_mostOf_32 rfl rfl rfl) ?_
  refine aSims_c (i := 3) (s_iret hC dX0_mostOf_34 rfl hr hlk nar_qI) ?_
  refine aSims_c (i := 4) (s_bipush hC dX0_mostOf_35 rfl rfl rfl) ?_
  refine aSims_c (i := 5) (s_iret hC dX0_mostOf_37 rfl hr hlk nar_qI) ?_
  refine aSims_c (i := 6) (s_sipush hC dX0_mostOf_38 rfl rfl rfl) ?_
  refine aSims_c (i := 7) (s_iret hC dX0_mostOf_41 rfl hr hlk nar_qI) ?_
  refine aSims_c (i := 8) (s_iconst hC dX0_mostOf_42 rfl rfl rfl) ?_
  refine aSims_c (i := 9) (s_iret hC dX0_mostOf_43 rfl hr hlk nar_qI) ?_
  refine aSims_c (i := 10) (s_bipush hC dX0_mostOf_44 rfl rfl rfl) ?_
  refine aSims_c (i := 11) (s_iret hC dX0_mostOf_46 rfl hr hlk nar_qI) ?_
  exact aSims_n
set_option maxHeartbeats 4000000 in
set_option maxRecDepth 20000 in
theorem sm_X0_learnsOf (hC : aC p s m args c cX0_learnsOf 5 RX0 D cA ad bs n0 H0 X) (hF : ∀ ml, ml ≤ 41 → aFit R d ml) (hRm : 16 ≤ R.frames ∧ 1000 ≤ R.locals) (hE : aCalls l D cA ad bs X d E) (hr : meth.sig.returnType = (some .int)) (hlk : meth.locks = false) : aSims (fun f i => aSim p l e R s m args below meth c (aEnd below s args D cA ad bs n0 z0 rv hf) 5 D cA ad bs n0 z0 H0 (apc pc_X0_learnsOf) rv hf E f i) (cd_X0_learnsOf) 0 := by
  unfold cd_X0_learnsOf
  refine aSims_c (i := 0) (s_iload_n hC dX0_learnsOf_0 rfl rfl) ?_
  refine aSims_c (i := 1) (s_if_ne hC dX0_learnsOf_1 rfl rfl rfl) ?_
  refine aSims_c (i := 2) (s_iconst hC dX0_learnsOf_4 rfl rfl rfl) ?_
  refine aSims_c (i := 3) (s_iload_n hC dX0_learnsOf_5 rfl rfl) ?_
  refine aSims_c (i := 4) (s_imul hC dX0_learnsOf_6 rfl rfl) ?_
  refine aSims_c (i := 5) (s_goto hC dX0_learnsOf_7 rfl rfl) ?_
  refine aSims_c (i := 6) (s_iload_n hC dX0_learnsOf_10 rfl rfl) ?_
  refine aSims_c (i := 7) (s_istore_n hC dX0_learnsOf_11 rfl rfl) ?_
  refine aSims_c (i := 8) (s_iload_n hC dX0_learnsOf_12 rfl rfl) ?_
  refine aSims_c (i := 9) (s_if_ne hC dX0_learnsOf_13 rfl rfl rfl) ?_
  refine aSims_c (i := 10) (s_iload_n hC dX0_learnsOf_16 rfl rfl) ?_
  refine aSims_c (i := 11) (s_iconst hC dX0_learnsOf_17 rfl rfl rfl) ?_
  refine aSims_c (i := 12) (s_idiv hC dX0_learnsOf_18 rfl rfl) ?_
  refine aSims_c (i := 13) (s_goto hC dX0_learnsOf_19 rfl rfl) ?_
  refine aSims_c (i := 14) (s_iload_n hC dX0_learnsOf_22 rfl rfl) ?_
  refine aSims_c (i := 15) (s_istore hC dX0_learnsOf_23 rfl rfl) ?_
  refine aSims_c (i := 16) (s_aload_n hC dX0_learnsOf_25 rfl rfl) ?_
  refine aSims_c (i := 17) (s_get hC dX0_learnsOf_26 rfl rfl w_184 rfl rfl inB0 (by decide)) ?_
  refine aSims_c (i := 18) (s_switch hC dX0_learnsOf_29 rfl rfl rfl rfl (aSw_in (by decide +kernel)) (fun j hj => anth_none hj)) ?_
  refine aSims_c (i := 19) (s_iload_n hC dX0_learnsOf_64 rfl rfl) ?_
  refine aSims_c (i := 20) (s_iret hC dX0_learnsOf_65 rfl hr hlk nar_qI) ?_
  refine aSims_c (i := 21) (s_iload hC dX0_learnsOf_66 rfl rfl) ?_
  refine aSims_c (i := 22) (s_iret hC dX0_learnsOf_68 rfl hr hlk nar_qI) ?_
  refine aSims_c (i := 23) (s_iload_n hC dX0_learnsOf_69 rfl rfl) ?_
  refine aSims_c (i := 24) (s_iconst hC dX0_learnsOf_70 rfl rfl rfl) ?_
  refine aSims_c (i := 25) (s_icmp_ne hC dX0_learnsOf_71 rfl rfl rfl) ?_
  refine aSims_c (i := 26) (s_iconst hC dX0_learnsOf_74 rfl rfl rfl) ?_
  refine aSims_c (i := 27) (s_goto hC dX0_learnsOf_75 rfl rfl) ?_
  refine aSims_c (i := 28) (s_iload_n hC dX0_learnsOf_78 rfl rfl) ?_
  refine aSims_c (i := 29) (s_iret hC dX0_learnsOf_79 rfl hr hlk nar_qI) ?_
  refine aSims_c (i := 30) (s_iload_n hC dX0_learnsOf_80 rfl rfl) ?_
  refine aSims_c (i := 31) (s_iconst hC dX0_learnsOf_81 rfl rfl rfl) ?_
  refine aSims_c (i := 32) (s_icmp_ne hC dX0_learnsOf_82 rfl rfl rfl) ?_
  refine aSims_c (i := 33) (s_iload hC dX0_learnsOf_85 rfl rfl) ?_
  refine aSims_c (i := 34) (s_aload_n hC dX0_learnsOf_87 rfl rfl) ?_
  refine aSims_c (i := 35) (s_get hC dX0_learnsOf_88 rfl rfl w_186 rfl rfl inB0 (by decide)) ?_
  refine aSims_c (i := 36) (s_iadd hC dX0_learnsOf_91 rfl rfl) ?_
  refine aSims_c (i := 37) (s_goto hC dX0_learnsOf_92 rfl rfl) ?_
  refine aSims_c (i := 38) (s_iload hC dX0_learnsOf_95 rfl rfl) ?_
  refine aSims_c (i := 39) (s_iret hC dX0_learnsOf_97 rfl hr hlk nar_qI) ?_
  refine aSims_c (i := 40) (s_iload_n hC dX0_learnsOf_98 rfl rfl) ?_
  refine aSims_c (i := 41) (s_iconst hC dX0_learnsOf_99 rfl rfl rfl) ?_
  refine aSims_c (i := 42) (s_min hC hRm dX0_learnsOf_100 rfl rfl w_580 ⟨w_553, w_110, w_554⟩) ?_
  refine aSims_c (i := 43) (s_iret hC dX0_learnsOf_103 rfl hr hlk nar_qI) ?_
  refine aSims_c (i := 44) (s_iload_n hC dX0_learnsOf_104 rfl rfl) ?_
  refine aSims_c (i := 45) (s_iret hC dX0_learnsOf_105 rfl hr hlk nar_qI) ?_
  exact aSims_n
set_option maxHeartbeats 4000000 in
set_option maxRecDepth 20000 in
theorem sm_X0_forgetsOf (hC : aC p s m args c cX0_forgetsOf 2 RX0 D cA ad bs n0 H0 X) (hF : ∀ ml, ml ≤ 41 → aFit R d ml) (hRm : 16 ≤ R.frames ∧ 1000 ≤ R.locals) (hE : aCalls l D cA ad bs X d E) (hr : meth.sig.returnType = (some .int)) (hlk : meth.locks = false) : aSims (fun f i => aSim p l e R s m args below meth c (aEnd below s args D cA ad bs n0 z0 rv hf) 2 D cA ad bs n0 z0 H0 (apc pc_X0_forgetsOf) rv hf E f i) (cd_X0_forgetsOf) 0 := by
  unfold cd_X0_forgetsOf
  refine aSims_c (i := 0) (s_aload_n hC dX0_forgetsOf_0 rfl rfl) ?_
  refine aSims_c (i := 1) (s_get hC dX0_forgetsOf_1 rfl rfl w_184 rfl rfl inB0 (by decide)) ?_
  refine aSims_c (i := 2) (s_switch hC dX0_forgetsOf_4 rfl rfl rfl rfl (aSw_in (by decide +kernel)) (fun j hj => anth_none hj)) ?_
  refine aSims_c (i := 3) (s_iload_n hC dX0_forgetsOf_36 rfl rfl) ?_
  refine aSims_c (i := 4) (s_iconst hC dX0_forgetsOf_37 rfl rfl rfl) ?_
  refine aSims_c (i := 5) (s_iadd hC dX0_forgetsOf_38 rfl rfl) ?_
  refine aSims_c (i := 6) (s_iret hC dX0_forgetsOf_39 rfl hr hlk nar_qI) ?_
  refine aSims_c (i := 7) (s_iconst hC dX0_forgetsOf_40 rfl rfl rfl) ?_
  refine aSims_c (i := 8) (s_iload_n hC dX0_forgetsOf_41 rfl rfl) ?_
  refine aSims_c (i := 9) (s_imul hC dX0_forgetsOf_42 rfl rfl) ?_
  refine aSims_c (i := 10) (s_iret hC dX0_forgetsOf_43 rfl hr hlk nar_qI) ?_
  refine aSims_c (i := 11) (s_iload_n hC dX0_forgetsOf_44 rfl rfl) ?_
  refine aSims_c (i := 12) (s_aload_n hC dX0_forgetsOf_45 rfl rfl) ?_
  refine aSims_c (i := 13) (s_get hC dX0_forgetsOf_46 rfl rfl w_186 rfl rfl inB0 (by decide)) ?_
  refine aSims_c (i := 14) (s_iadd hC dX0_forgetsOf_49 rfl rfl) ?_
  refine aSims_c (i := 15) (s_iret hC dX0_forgetsOf_50 rfl hr hlk nar_qI) ?_
  refine aSims_c (i := 16) (s_iload_n hC dX0_forgetsOf_51 rfl rfl) ?_
  refine aSims_c (i := 17) (s_iret hC dX0_forgetsOf_52 rfl hr hlk nar_qI) ?_
  exact aSims_n
set_option maxHeartbeats 4000000 in
set_option maxRecDepth 20000 in
theorem sm_X0_nerveOf (hC : aC p s m args c cX0_nerveOf 2 RX0 D cA ad bs n0 H0 X) (hF : ∀ ml, ml ≤ 41 → aFit R d ml) (hRm : 16 ≤ R.frames ∧ 1000 ≤ R.locals) (hE : aCalls l D cA ad bs X d E) (hr : meth.sig.returnType = (some .int)) (hlk : meth.locks = false) : aSims (fun f i => aSim p l e R s m args below meth c (aEnd below s args D cA ad bs n0 z0 rv hf) 2 D cA ad bs n0 z0 H0 (apc pc_X0_nerveOf) rv hf E f i) (cd_X0_nerveOf) 0 := by
  unfold cd_X0_nerveOf
  refine aSims_c (i := 0) (s_aload_n hC dX0_nerveOf_0 rfl rfl) ?_
  refine aSims_c (i := 1) (s_get hC dX0_nerveOf_1 rfl rfl w_184 rfl rfl inB0 (by decide)) ?_
  refine aSims_c (i := 2) (s_switch hC dX0_nerveOf_4 rfl rfl rfl rfl (aSw_in (by decide +kernel)) (fun j hj => anth_none hj)) ?_
  refine aSims_c (i := 3) (s_iload_n hC dX0_nerveOf_40 rfl rfl) ?_
  refine aSims_c (i := 4) (s_iconst hC dX0_nerveOf_41 rfl rfl rfl) ?_
  refine aSims_c (i := 5) (s_iadd hC dX0_nerveOf_42 rfl rfl) ?_
  refine aSims_c (i := 6) (s_iret hC dX0_nerveOf_43 rfl hr hlk nar_qI) ?_
  refine aSims_c (i := 7) (s_iload_n hC dX0_nerveOf_44 rfl rfl) ?_
  refine aSims_c (i := 8) (s_iconst hC dX0_nerveOf_45 rfl rfl rfl) ?_
  refine aSims_c (i := 9) (s_isub hC dX0_nerveOf_46 rfl rfl) ?_
  refine aSims_c (i := 10) (s_iret hC dX0_nerveOf_47 rfl hr hlk nar_qI) ?_
  refine aSims_c (i := 11) (s_iload_n hC dX0_nerveOf_48 rfl rfl) ?_
  refine aSims_c (i := 12) (s_iconst hC dX0_nerveOf_49 rfl rfl rfl) ?_
  refine aSims_c (i := 13) (s_iadd hC dX0_nerveOf_50 rfl rfl) ?_
  refine aSims_c (i := 14) (s_aload_n hC dX0_nerveOf_51 rfl rfl) ?_
  refine aSims_c (i := 15) (s_get hC dX0_nerveOf_52 rfl rfl w_186 rfl rfl inB0 (by decide)) ?_
  refine aSims_c (i := 16) (s_iadd hC dX0_nerveOf_55 rfl rfl) ?_
  refine aSims_c (i := 17) (s_iret hC dX0_nerveOf_56 rfl hr hlk nar_qI) ?_
  refine aSims_c (i := 18) (s_aload_n hC dX0_nerveOf_57 rfl rfl) ?_
  refine aSims_c (i := 19) (s_get hC dX0_nerveOf_58 rfl rfl w_189 rfl rfl inB0 (by decide)) ?_
  refine aSims_c (i := 20) (s_iconst hC dX0_nerveOf_61 rfl rfl rfl) ?_
  refine aSims_c (i := 21) (s_icmp_le hC dX0_nerveOf_62 rfl rfl rfl) ?_
  refine aSims_c (i := 22) (s_iconst hC dX0_nerveOf_65 rfl rfl rfl) ?_
  refine aSims_c (i := 23) (s_goto hC dX0_nerveOf_66 rfl rfl) ?_
  refine aSims_c (i := 24) (s_iload_n hC dX0_nerveOf_69 rfl rfl) ?_
  refine aSims_c (i := 25) (s_iconst hC dX0_nerveOf_70 rfl rfl rfl) ?_
  refine aSims_c (i := 26) (s_isub hC dX0_nerveOf_71 rfl rfl) ?_
  refine aSims_c (i := 27) (s_iret hC dX0_nerveOf_72 rfl hr hlk nar_qI) ?_
  refine aSims_c (i := 28) (s_iload_n hC dX0_nerveOf_73 rfl rfl) ?_
  refine aSims_c (i := 29) (s_iconst hC dX0_nerveOf_74 rfl rfl rfl) ?_
  refine aSims_c (i := 30) (s_idiv hC dX0_nerveOf_75 rfl rfl) ?_
  refine aSims_c (i := 31) (s_iret hC dX0_nerveOf_76 rfl hr hlk nar_qI) ?_
  refine aSims_c (i := 32) (s_iload_n hC dX0_nerveOf_77 rfl rfl) ?_
  refine aSims_c (i := 33) (s_iret hC dX0_nerveOf_78 rfl hr hlk nar_qI) ?_
  exact aSims_n
set_option maxHeartbeats 4000000 in
set_option maxRecDepth 20000 in
theorem sm_X0_isOfKind (hC : aC p s m args c cX0_isOfKind 4 RX0 D cA ad bs n0 H0 X) (hF : ∀ ml, ml ≤ 41 → aFit R d ml) (hRm : 16 ≤ R.frames ∧ 1000 ≤ R.locals) (hE : aCalls l D cA ad bs X d E) (hr : meth.sig.returnType = (some .boolean)) (hlk : meth.locks = false) : aSims (fun f i => aSim p l e R s m args below meth c (aEnd below s args D cA ad bs n0 z0 rv hf) 4 D cA ad bs n0 z0 H0 (apc pc_X0_isOfKind) rv hf E f i) (cd_X0_isOfKind X) 0 := by
  unfold cd_X0_isOfKind
  refine aSims_c (i := 0) (s_aload_n hC dX0_isOfKind_0 rfl rfl) ?_
  refine aSims_c (i := 1) (s_get hC dX0_isOfKind_1 rfl rfl w_184 rfl rfl inB0 (by decide)) ?_
  refine aSims_c (i := 2) (s_istore_n hC dX0_isOfKind_4 rfl rfl) ?_
  refine aSims_c (i := 3) (s_iconst hC dX0_isOfKind_5 rfl rfl rfl) ?_
  refine aSims_c (i := 4) (s_istore_n hC dX0_isOfKind_6 rfl rfl) ?_
  refine aSims_c (i := 5) (s_iload_n hC dX0_isOfKind_7 rfl rfl) ?_
  refine aSims_c (i := 6) (s_bipush hC dX0_isOfKind_8 rfl rfl rfl) ?_
  refine aSims_c (i := 7) (s_icmp_ge hC dX0_isOfKind_10 rfl rfl rfl) ?_
  refine aSims_c (i := 8) (s_iload_n hC dX0_isOfKind_13 rfl rfl) ?_
  refine aSims_c (i := 9) (s_if_lt hC dX0_isOfKind_14 rfl rfl rfl) ?_
  refine aSims_c (i := 10) (s_iload_n hC dX0_isOfKind_17 rfl rfl) ?_
  refine aSims_c (i := 11) (s_getsN hC dX0_isOfKind_18 rfl rfl hC.2.2.2.2.2.2.2.2.1.2.2.2.2.2.1 hC.2.2.2.2.2.2.2.2.1.1.2.2.2.2.2.2.2) ?_
  refine aSims_c (i := 12) (s_arraylength hC hXX dX0_isOfKind_21 rfl rfl) ?_
  refine aSims_c (i := 13) (s_icmp_ge hC dX0_isOfKind_22 rfl rfl rfl) ?_
  refine aSims_c (i := 14) (s_iload_n hC dX0_isOfKind_25 rfl rfl) ?_
  refine aSims_c (i := 15) (s_iload_n hC dX0_isOfKind_26 rfl rfl) ?_
  refine aSims_c (i := 16) (s_icmp_ne hC dX0_isOfKind_27 rfl rfl rfl) ?_
  refine aSims_c (i := 17) (s_iconst hC dX0_isOfKind_30 rfl rfl rfl) ?_
  refine aSims_c (i := 18) (s_iret hC dX0_isOfKind_31 rfl hr hlk nar_qZ) ?_
  refine aSims_c (i := 19) (s_getsN hC dX0_isOfKind_32 rfl rfl hC.2.2.2.2.2.2.2.2.1.2.2.2.2.2.1 hC.2.2.2.2.2.2.2.2.1.1.2.2.2.2.2.2.2) ?_
  refine aSims_c (i := 20) (s_iload_n hC dX0_isOfKind_35 rfl rfl) ?_
  refine aSims_c (i := 21) (s_iaload hC hXX dX0_isOfKind_36 rfl rfl) ?_
  refine aSims_c (i := 22) (s_istore_n hC dX0_isOfKind_37 rfl rfl) ?_
  refine aSims_c (i := 23) (s_iinc hC dX0_isOfKind_38 rfl rfl) ?_
  refine aSims_c (i := 24) (s_goto hC dX0_isOfKind_41 rfl rfl) ?_
  refine aSims_c (i := 25) (s_iconst hC dX0_isOfKind_44 rfl rfl rfl) ?_
  refine aSims_c (i := 26) (s_iret hC dX0_isOfKind_45 rfl hr hlk nar_qZ) ?_
  exact aSims_n
set_option maxHeartbeats 4000000 in
set_option maxRecDepth 20000 in
theorem sm_X0_leastSkilled (hC : aC p s m args c cX0_leastSkilled 3 RX0 D cA ad bs n0 H0 X) (hF : ∀ ml, ml ≤ 41 → aFit R d ml) (hRm : 16 ≤ R.frames ∧ 1000 ≤ R.locals) (hE : aCalls l D cA ad bs X d E) (hr : meth.sig.returnType = (some .int)) (hlk : meth.locks = false) : aSims (fun f i => aSim p l e R s m args below meth c (aEnd below s args D cA ad bs n0 z0 rv hf) 3 D cA ad bs n0 z0 H0 (apc pc_X0_leastSkilled) rv hf E f i) (cd_X0_leastSkilled) 0 := by
  unfold cd_X0_leastSkilled
  refine aSims_c (i := 0) (s_iconst hC dX0_leastSkilled_0 rfl rfl rfl) ?_
  refine aSims_c (i := 1) (s_istore_n hC dX0_leastSkilled_1 rfl rfl) ?_
  refine aSims_c (i := 2) (s_iconst hC dX0_leastSkilled_2 rfl rfl rfl) ?_
  refine aSims_c (i := 3) (s_istore_n hC dX0_leastSkilled_3 rfl rfl) ?_
  refine aSims_c (i := 4) (s_iload_n hC dX0_leastSkilled_4 rfl rfl) ?_
  refine aSims_c (i := 5) (s_bipush hC dX0_leastSkilled_5 rfl rfl rfl) ?_
  refine aSims_c (i := 6) (s_icmp_ge hC dX0_leastSkilled_7 rfl rfl rfl) ?_
  refine aSims_c (i := 7) (s_aload_n hC dX0_leastSkilled_10 rfl rfl) ?_
  refine aSims_c (i := 8) (s_get hC dX0_leastSkilled_11 rfl rfl w_195 rfl rfl inB0 (by decide)) ?_
  refine aSims_c (i := 9) (s_iload_n hC dX0_leastSkilled_14 rfl rfl) ?_
  refine aSims_c (i := 10) (s_iaload hC hX0 dX0_leastSkilled_15 rfl rfl) ?_
  refine aSims_c (i := 11) (s_aload_n hC dX0_leastSkilled_16 rfl rfl) ?_
  refine aSims_c (i := 12) (s_get hC dX0_leastSkilled_17 rfl rfl w_195 rfl rfl inB0 (by decide)) ?_
  refine aSims_c (i := 13) (s_iload_n hC dX0_leastSkilled_20 rfl rfl) ?_
  refine aSims_c (i := 14) (s_iaload hC hX0 dX0_leastSkilled_21 rfl rfl) ?_
  refine aSims_c (i := 15) (s_icmp_ge hC dX0_leastSkilled_22 rfl rfl rfl) ?_
  refine aSims_c (i := 16) (s_iload_n hC dX0_leastSkilled_25 rfl rfl) ?_
  refine aSims_c (i := 17) (s_istore_n hC dX0_leastSkilled_26 rfl rfl) ?_
  refine aSims_c (i := 18) (s_iinc hC dX0_leastSkilled_27 rfl rfl) ?_
  refine aSims_c (i := 19) (s_goto hC dX0_leastSkilled_30 rfl rfl) ?_
  refine aSims_c (i := 20) (s_iload_n hC dX0_leastSkilled_33 rfl rfl) ?_
  refine aSims_c (i := 21) (s_iret hC dX0_leastSkilled_34 rfl hr hlk nar_qI) ?_
  exact aSims_n
set_option maxHeartbeats 4000000 in
set_option maxRecDepth 20000 in
theorem sm_X0_skillsTogether (hC : aC p s m args c cX0_skillsTogether 3 RX0 D cA ad bs n0 H0 X) (hF : ∀ ml, ml ≤ 41 → aFit R d ml) (hRm : 16 ≤ R.frames ∧ 1000 ≤ R.locals) (hE : aCalls l D cA ad bs X d E) (hr : meth.sig.returnType = (some .int)) (hlk : meth.locks = false) : aSims (fun f i => aSim p l e R s m args below meth c (aEnd below s args D cA ad bs n0 z0 rv hf) 3 D cA ad bs n0 z0 H0 (apc pc_X0_skillsTogether) rv hf E f i) (cd_X0_skillsTogether) 0 := by
  unfold cd_X0_skillsTogether
  refine aSims_c (i := 0) (s_iconst hC dX0_skillsTogether_0 rfl rfl rfl) ?_
  refine aSims_c (i := 1) (s_istore_n hC dX0_skillsTogether_1 rfl rfl) ?_
  refine aSims_c (i := 2) (s_iconst hC dX0_skillsTogether_2 rfl rfl rfl) ?_
  refine aSims_c (i := 3) (s_istore_n hC dX0_skillsTogether_3 rfl rfl) ?_
  refine aSims_c (i := 4) (s_iload_n hC dX0_skillsTogether_4 rfl rfl) ?_
  refine aSims_c (i := 5) (s_bipush hC dX0_skillsTogether_5 rfl rfl rfl) ?_
  refine aSims_c (i := 6) (s_icmp_ge hC dX0_skillsTogether_7 rfl rfl rfl) ?_
  refine aSims_c (i := 7) (s_iload_n hC dX0_skillsTogether_10 rfl rfl) ?_
  refine aSims_c (i := 8) (s_aload_n hC dX0_skillsTogether_11 rfl rfl) ?_
  refine aSims_c (i := 9) (s_get hC dX0_skillsTogether_12 rfl rfl w_195 rfl rfl inB0 (by decide)) ?_
  refine aSims_c (i := 10) (s_iload_n hC dX0_skillsTogether_15 rfl rfl) ?_
  refine aSims_c (i := 11) (s_iaload hC hX0 dX0_skillsTogether_16 rfl rfl) ?_
  refine aSims_c (i := 12) (s_iadd hC dX0_skillsTogether_17 rfl rfl) ?_
  refine aSims_c (i := 13) (s_istore_n hC dX0_skillsTogether_18 rfl rfl) ?_
  refine aSims_c (i := 14) (s_iinc hC dX0_skillsTogether_19 rfl rfl) ?_
  refine aSims_c (i := 15) (s_goto hC dX0_skillsTogether_22 rfl rfl) ?_
  refine aSims_c (i := 16) (s_iload_n hC dX0_skillsTogether_25 rfl rfl) ?_
  refine aSims_c (i := 17) (s_iret hC dX0_skillsTogether_26 rfl hr hlk nar_qI) ?_
  exact aSims_n
set_option maxHeartbeats 4000000 in
set_option maxRecDepth 20000 in
theorem sm_X1_init (hC : aC p s m args c cX1_init 1 RX1 D cA ad bs n0 H0 X) (hF : ∀ ml, ml ≤ 41 → aFit R d ml) (hRm : 16 ≤ R.frames ∧ 1000 ≤ R.locals) (hE : aCalls l D cA ad bs X d E) (hr : meth.sig.returnType = none) (hlk : meth.locks = false) (hin : meth.name = "<init>") : aSims (fun f i => aSim p l e R s m args below meth c (aEnd below s args D cA ad bs n0 z0 rv hf) 1 D cA ad bs n0 z0 H0 (apc pc_X1_init) rv hf E f i) (cd_X1_init) 0 := by
  unfold cd_X1_init
  refine aSims_c (i := 0) (s_aload_n hC dX1_init_0 rfl rfl) ?_
  refine aSims_c (i := 1) (s_objinit hC hRm dX1_init_1 rfl rfl w_126 ⟨w_117, w_118⟩) ?_
  refine aSims_c (i := 2) (s_aload_n hC dX1_init_4 rfl rfl) ?_
  refine aSims_c (i := 3) (s_sipush hC dX1_init_5 rfl rfl rfl) ?_
  refine aSims_c (i := 4) (s_newarray (t0 := 0) hC dX1_init_8 rfl rfl rfl (by decide) w_150) ?_
  refine aSims_c (i := 5) (s_putF hC dX1_init_10 rfl rfl w_153 rfl rfl inB1 tyX1_ok nmX1 (by decide) rfl rfl hin) ?_
  refine aSims_c (i := 6) (s_aload_n hC dX1_init_13 rfl rfl) ?_
  refine aSims_c (i := 7) (s_new hC dX1_init_14 rfl rfl w_127 w_128 w_98 rfl rfl inB3 tyX3_ok okX3) ?_
  refine aSims_c (i := 8) (s_dup hC dX1_init_17 rfl rfl) ?_
  refine aSims_c (i := 9) (s_iconst hC dX1_init_18 rfl rfl rfl) ?_
  refine aSims_c (i := 10) (s_callI (n := 1) hC dX1_init_19 rfl rfl (hE 35 _ _ _ _ rfl) (hF _ (by decide)) w_131 w_129 w_130 w_98 rfl (by decide +kernel)) ?_
  refine aSims_c (i := 11) (s_putF hC dX1_init_22 rfl rfl w_154 rfl rfl inB1 tyX1_ok nmX1 (by decide) rfl rfl hin) ?_
  refine aSims_c (i := 12) (s_vret hC dX1_init_25 rfl hr hlk) ?_
  exact aSims_n
set_option maxHeartbeats 4000000 in
set_option maxRecDepth 20000 in
theorem sm_X1_take (hC : aC p s m args c cX1_take 2 RX1 D cA ad bs n0 H0 X) (hF : ∀ ml, ml ≤ 41 → aFit R d ml) (hRm : 16 ≤ R.frames ∧ 1000 ≤ R.locals) (hE : aCalls l D cA ad bs X d E) (hr : meth.sig.returnType = (some .boolean)) (hlk : meth.locks = false) : aSims (fun f i => aSim p l e R s m args below meth c (aEnd below s args D cA ad bs n0 z0 rv hf) 2 D cA ad bs n0 z0 H0 (apc pc_X1_take) rv hf E f i) (cd_X1_take) 0 := by
  unfold cd_X1_take
  refine aSims_c (i := 0) (s_aload_n hC dX1_take_0 rfl rfl) ?_
  refine aSims_c (i := 1) (s_get hC dX1_take_1 rfl rfl w_151 rfl rfl inB1 (by decide)) ?_
  refine aSims_c (i := 2) (s_if_lt hC dX1_take_4 rfl rfl rfl) ?_
  refine aSims_c (i := 3) (s_aload_n hC dX1_take_7 rfl rfl) ?_
  refine aSims_c (i := 4) (s_get hC dX1_take_8 rfl rfl w_151 rfl rfl inB1 (by decide)) ?_
  refine aSims_c (i := 5) (s_sipush hC dX1_take_11 rfl rfl rfl) ?_
  refine aSims_c (i := 6) (s_icmp_lt hC dX1_take_14 rfl rfl rfl) ?_
  refine aSims_c (i := 7) (s_iconst hC dX1_take_17 rfl rfl rfl) ?_
  refine aSims_c (i := 8) (s_iret hC dX1_take_18 rfl hr hlk nar_qZ) ?_
  refine aSims_c (i := 9) (s_aload_n hC dX1_take_19 rfl rfl) ?_
  refine aSims_c (i := 10) (s_get hC dX1_take_20 rfl rfl w_153 rfl rfl inB1 (by decide)) ?_
  refine aSims_c (i := 11) (s_aload_n hC dX1_take_23 rfl rfl) ?_
  refine aSims_c (i := 12) (s_get hC dX1_take_24 rfl rfl w_151 rfl rfl inB1 (by decide)) ?_
  refine aSims_c (i := 13) (s_iload_n hC dX1_take_27 rfl rfl) ?_
  refine aSims_c (i := 14) (s_iastore hC dX1_take_28 rfl rfl) ?_
  refine aSims_c (i := 15) (s_aload_n hC dX1_take_29 rfl rfl) ?_
  refine aSims_c (i := 16) (s_dup hC dX1_take_30 rfl rfl) ?_
  refine aSims_c (i := 17) (s_get hC dX1_take_31 rfl rfl w_151 rfl rfl inB1 (by decide)) ?_
  refine aSims_c (i := 18) (s_iconst hC dX1_take_34 rfl rfl rfl) ?_
  refine aSims_c (i := 19) (s_iadd hC dX1_take_35 rfl rfl) ?_
  refine aSims_c (i := 20) (s_put hC dX1_take_36 rfl rfl w_151 rfl rfl inB1 tyX1_ok nmX1 (by decide) rfl) ?_
  refine aSims_c (i := 21) (s_iconst hC dX1_take_39 rfl rfl rfl) ?_
  refine aSims_c (i := 22) (s_iret hC dX1_take_40 rfl hr hlk nar_qZ) ?_
  exact aSims_n
set_option maxHeartbeats 4000000 in
set_option maxRecDepth 20000 in
theorem sm_X1_readInto (hC : aC p s m args c cX1_readInto 3 RX1 D cA ad bs n0 H0 X) (hF : ∀ ml, ml ≤ 41 → aFit R d ml) (hRm : 16 ≤ R.frames ∧ 1000 ≤ R.locals) (hE : aCalls l D cA ad bs X d E) (hr : meth.sig.returnType = (some .int)) (hlk : meth.locks = false) : aSims (fun f i => aSim p l e R s m args below meth c (aEnd below s args D cA ad bs n0 z0 rv hf) 3 D cA ad bs n0 z0 H0 (apc pc_X1_readInto) rv hf E f i) (cd_X1_readInto) 0 := by
  unfold cd_X1_readInto
  refine aSims_c (i := 0) (s_aload_n hC dX1_readInto_0 rfl rfl) ?_
  refine aSims_c (i := 1) (s_get hC dX1_readInto_1 rfl rfl w_154 rfl rfl inB1 (by decide)) ?_
  refine aSims_c (i := 2) (s_callV (n := 0) hC dX1_readInto_4 rfl rfl (hE 36 _ _ _ _ rfl) (hF _ (by decide)) w_289 w_286 w_287 w_288 w_98 rfl (by decide +kernel)) ?_
  refine aSims_c (i := 3) (s_aload_n hC dX1_readInto_7 rfl rfl) ?_
  refine aSims_c (i := 4) (s_iconst hC dX1_readInto_8 rfl rfl rfl) ?_
  refine aSims_c (i := 5) (s_put hC dX1_readInto_9 rfl rfl w_157 rfl rfl inB1 tyX1_ok nmX1 (by decide) rfl) ?_
  refine aSims_c (i := 6) (s_aload_n hC dX1_readInto_12 rfl rfl) ?_
  refine aSims_c (i := 7) (s_callV (n := 0) hC dX1_readInto_13 rfl rfl (hE 23 _ _ _ _ rfl) (hF _ (by decide)) w_296 w_293 w_295 w_0 w_97 rfl (by decide +kernel)) ?_
  refine aSims_c (i := 8) (s_aload_n hC dX1_readInto_16 rfl rfl) ?_
  refine aSims_c (i := 9) (s_iconst hC dX1_readInto_17 rfl rfl rfl) ?_
  refine aSims_c (i := 10) (s_iconst hC dX1_readInto_18 rfl rfl rfl) ?_
  refine aSims_c (i := 11) (s_callV (n := 2) hC dX1_readInto_19 rfl rfl (hE 15 _ _ _ _ rfl) (hF _ (by decide)) w_338 w_335 w_337 w_7 w_97 rfl (by decide +kernel)) ?_
  refine aSims_c (i := 12) (s_if_eq hC dX1_readInto_22 rfl rfl rfl) ?_
  refine aSims_c (i := 13) (s_aload_n hC dX1_readInto_25 rfl rfl) ?_
  refine aSims_c (i := 14) (s_iconst hC dX1_readInto_26 rfl rfl rfl) ?_
  refine aSims_c (i := 15) (s_iconst hC dX1_readInto_27 rfl rfl rfl) ?_
  refine aSims_c (i := 16) (s_callV (n := 2) hC dX1_readInto_28 rfl rfl (hE 15 _ _ _ _ rfl) (hF _ (by decide)) w_338 w_335 w_337 w_7 w_97 rfl (by decide +kernel)) ?_
  refine aSims_c (i := 17) (s_if_eq hC dX1_readInto_31 rfl rfl rfl) ?_
  refine aSims_c (i := 18) (s_aload_n hC dX1_readInto_34 rfl rfl) ?_
  refine aSims_c (i := 19) (s_iconst hC dX1_readInto_35 rfl rfl rfl) ?_
  refine aSims_c (i := 20) (s_iconst hC dX1_readInto_36 rfl rfl rfl) ?_
  refine aSims_c (i := 21) (s_callV (n := 2) hC dX1_readInto_37 rfl rfl (hE 15 _ _ _ _ rfl) (hF _ (by decide)) w_338 w_335 w_337 w_7 w_97 rfl (by decide +kernel)) ?_
  refine aSims_c (i := 22) (s_if_eq hC dX1_readInto_40 rfl rfl rfl) ?_
  refine aSims_c (i := 23) (s_aload_n hC dX1_readInto_43 rfl rfl) ?_
  refine aSims_c (i := 24) (s_get hC dX1_readInto_44 rfl rfl w_155 rfl rfl inB1 (by decide)) ?_
  refine aSims_c (i := 25) (s_if_ne hC dX1_readInto_47 rfl rfl rfl) ?_
  refine aSims_c (i := 26) (s_iconst hC dX1_readInto_50 rfl rfl rfl) ?_
  refine aSims_c (i := 27) (s_goto hC dX1_readInto_51 rfl rfl) ?_
  refine aSims_c (i := 28) (s_iconst hC dX1_readInto_54 rfl rfl rfl) ?_
  refine aSims_c (i := 29) (s_istore_n hC dX1_readInto_55 rfl rfl) ?_
  refine aSims_c (i := 30) (s_aload_n hC dX1_readInto_56 rfl rfl) ?_
  refine aSims_c (i := 31) (s_iconst hC dX1_readInto_57 rfl rfl rfl) ?_
  refine aSims_c (i := 32) (s_put hC dX1_readInto_58 rfl rfl w_151 rfl rfl inB1 tyX1_ok nmX1 (by decide) rfl) ?_
  refine aSims_c (i := 33) (s_iload_n hC dX1_readInto_61 rfl rfl) ?_
  refine aSims_c (i := 34) (s_if_ne hC dX1_readInto_62 rfl rfl rfl) ?_
  refine aSims_c (i := 35) (s_aload_n hC dX1_readInto_65 rfl rfl) ?_
  refine aSims_c (i := 36) (s_get hC dX1_readInto_66 rfl rfl w_156 rfl rfl inB1 (by decide)) ?_
  refine aSims_c (i := 37) (s_iret hC dX1_readInto_69 rfl hr hlk nar_qI) ?_
  refine aSims_c (i := 38) (s_aload_n hC dX1_readInto_70 rfl rfl) ?_
  refine aSims_c (i := 39) (s_aload_n hC dX1_readInto_71 rfl rfl) ?_
  refine aSims_c (i := 40) (s_get hC dX1_readInto_72 rfl rfl w_154 rfl rfl inB1 (by decide)) ?_
  refine aSims_c (i := 41) (s_callV (n := 1) hC dX1_readInto_75 rfl rfl (hE 37 _ _ _ _ rfl) (hF _ (by decide)) w_378 w_375 w_376 w_377 w_98 rfl (by decide +kernel)) ?_
  refine aSims_c (i := 42) (s_iconst hC dX1_readInto_78 rfl rfl rfl) ?_
  refine aSims_c (i := 43) (s_iret hC dX1_readInto_79 rfl hr hlk nar_qI) ?_
  exact aSims_n
set_option maxHeartbeats 4000000 in
set_option maxRecDepth 20000 in
theorem sm_X1_readPart (hC : aC p s m args c cX1_readPart 3 RX1 D cA ad bs n0 H0 X) (hF : ∀ ml, ml ≤ 41 → aFit R d ml) (hRm : 16 ≤ R.frames ∧ 1000 ≤ R.locals) (hE : aCalls l D cA ad bs X d E) (hr : meth.sig.returnType = (some .boolean)) (hlk : meth.locks = false) : aSims (fun f i => aSim p l e R s m args below meth c (aEnd below s args D cA ad bs n0 z0 rv hf) 3 D cA ad bs n0 z0 H0 (apc pc_X1_readPart) rv hf E f i) (cd_X1_readPart) 0 := by
  unfold cd_X1_readPart
  refine aSims_c (i := 0) (s_aload_n hC dX1_readPart_0 rfl rfl) ?_
  refine aSims_c (i := 1) (s_get hC dX1_readPart_1 rfl rfl w_155 rfl rfl inB1 (by decide)) ?_
  refine aSims_c (i := 2) (s_iload_n hC dX1_readPart_4 rfl rfl) ?_
  refine aSims_c (i := 3) (s_icmp_eq hC dX1_readPart_5 rfl rfl rfl) ?_
  refine aSims_c (i := 4) (s_iconst hC dX1_readPart_8 rfl rfl rfl) ?_
  refine aSims_c (i := 5) (s_iret hC dX1_readPart_9 rfl hr hlk nar_qZ) ?_
  refine aSims_c (i := 6) (s_aload_n hC dX1_readPart_10 rfl rfl) ?_
  refine aSims_c (i := 7) (s_callV (n := 0) hC dX1_readPart_11 rfl rfl (hE 23 _ _ _ _ rfl) (hF _ (by decide)) w_296 w_293 w_295 w_0 w_97 rfl (by decide +kernel)) ?_
  refine aSims_c (i := 8) (s_aload_n hC dX1_readPart_14 rfl rfl) ?_
  refine aSims_c (i := 9) (s_iconst hC dX1_readPart_15 rfl rfl rfl) ?_
  refine aSims_c (i := 10) (s_callV (n := 1) hC dX1_readPart_16 rfl rfl (hE 16 _ _ _ _ rfl) (hF _ (by decide)) w_342 w_339 w_341 w_8 w_97 rfl (by decide +kernel)) ?_
  refine aSims_c (i := 11) (s_if_eq hC dX1_readPart_19 rfl rfl rfl) ?_
  refine aSims_c (i := 12) (s_aload_n hC dX1_readPart_22 rfl rfl) ?_
  refine aSims_c (i := 13) (s_get hC dX1_readPart_23 rfl rfl w_155 rfl rfl inB1 (by decide)) ?_
  refine aSims_c (i := 14) (s_bipush hC dX1_readPart_26 rfl rfl rfl) ?_
  refine aSims_c (i := 15) (s_icmp_eq hC dX1_readPart_28 rfl rfl rfl) ?_
  refine aSims_c (i := 16) (s_iconst hC dX1_readPart_31 rfl rfl rfl) ?_
  refine aSims_c (i := 17) (s_iret hC dX1_readPart_32 rfl hr hlk nar_qZ) ?_
  refine aSims_c (i := 18) (s_aload_n hC dX1_readPart_33 rfl rfl) ?_
  refine aSims_c (i := 19) (s_callV (n := 0) hC dX1_readPart_34 rfl rfl (hE 23 _ _ _ _ rfl) (hF _ (by decide)) w_296 w_293 w_295 w_0 w_97 rfl (by decide +kernel)) ?_
  refine aSims_c (i := 20) (s_aload_n hC dX1_readPart_37 rfl rfl) ?_
  refine aSims_c (i := 21) (s_get hC dX1_readPart_38 rfl rfl w_154 rfl rfl inB1 (by decide)) ?_
  refine aSims_c (i := 22) (s_iload_n hC dX1_readPart_41 rfl rfl) ?_
  refine aSims_c (i := 23) (s_callV (n := 1) hC dX1_readPart_42 rfl rfl (hE 39 _ _ _ _ rfl) (hF _ (by decide)) w_374 w_371 w_372 w_373 w_98 rfl (by decide +kernel)) ?_
  refine aSims_c (i := 24) (s_iconst hC dX1_readPart_45 rfl rfl rfl) ?_
  refine aSims_c (i := 25) (s_iret hC dX1_readPart_46 rfl hr hlk nar_qZ) ?_
  exact aSims_n
set_option maxHeartbeats 4000000 in
set_option maxRecDepth 20000 in
theorem sm_X1_readOr (hC : aC p s m args c cX1_readOr 3 RX1 D cA ad bs n0 H0 X) (hF : ∀ ml, ml ≤ 41 → aFit R d ml) (hRm : 16 ≤ R.frames ∧ 1000 ≤ R.locals) (hE : aCalls l D cA ad bs X d E) (hr : meth.sig.returnType = (some .boolean)) (hlk : meth.locks = false) : aSims (fun f i => aSim p l e R s m args below meth c (aEnd below s args D cA ad bs n0 z0 rv hf) 3 D cA ad bs n0 z0 H0 (apc pc_X1_readOr) rv hf E f i) (cd_X1_readOr) 0 := by
  unfold cd_X1_readOr
  refine aSims_c (i := 0) (s_aload_n hC dX1_readOr_0 rfl rfl) ?_
  refine aSims_c (i := 1) (s_iload_n hC dX1_readOr_1 rfl rfl) ?_
  refine aSims_c (i := 2) (s_callV (n := 1) hC dX1_readOr_2 rfl rfl (hE 17 _ _ _ _ rfl) (hF _ (by decide)) w_346 w_343 w_345 w_9 w_97 rfl (by decide +kernel)) ?_
  refine aSims_c (i := 3) (s_if_ne hC dX1_readOr_5 rfl rfl rfl) ?_
  refine aSims_c (i := 4) (s_iconst hC dX1_readOr_8 rfl rfl rfl) ?_
  refine aSims_c (i := 5) (s_iret hC dX1_readOr_9 rfl hr hlk nar_qZ) ?_
  refine aSims_c (i := 6) (s_iconst hC dX1_readOr_10 rfl rfl rfl) ?_
  refine aSims_c (i := 7) (s_istore_n hC dX1_readOr_11 rfl rfl) ?_
  refine aSims_c (i := 8) (s_iload_n hC dX1_readOr_12 rfl rfl) ?_
  refine aSims_c (i := 9) (s_sipush hC dX1_readOr_13 rfl rfl rfl) ?_
  refine aSims_c (i := 10) (s_icmp_ge hC dX1_readOr_16 rfl rfl rfl) ?_
  refine aSims_c (i := 11) (s_aload_n hC dX1_readOr_19 rfl rfl) ?_
  refine aSims_c (i := 12) (s_get hC dX1_readOr_20 rfl rfl w_155 rfl rfl inB1 (by decide)) ?_
  refine aSims_c (i := 13) (s_bipush hC dX1_readOr_23 rfl rfl rfl) ?_
  refine aSims_c (i := 14) (s_icmp_ne hC dX1_readOr_25 rfl rfl rfl) ?_
  refine aSims_c (i := 15) (s_aload_n hC dX1_readOr_28 rfl rfl) ?_
  refine aSims_c (i := 16) (s_callV (n := 0) hC dX1_readOr_29 rfl rfl (hE 23 _ _ _ _ rfl) (hF _ (by decide)) w_296 w_293 w_295 w_0 w_97 rfl (by decide +kernel)) ?_
  refine aSims_c (i := 17) (s_aload_n hC dX1_readOr_32 rfl rfl) ?_
  refine aSims_c (i := 18) (s_iload_n hC dX1_readOr_33 rfl rfl) ?_
  refine aSims_c (i := 19) (s_callV (n := 1) hC dX1_readOr_34 rfl rfl (hE 17 _ _ _ _ rfl) (hF _ (by decide)) w_346 w_343 w_345 w_9 w_97 rfl (by decide +kernel)) ?_
  refine aSims_c (i := 20) (s_if_ne hC dX1_readOr_37 rfl rfl rfl) ?_
  refine aSims_c (i := 21) (s_iconst hC dX1_readOr_40 rfl rfl rfl) ?_
  refine aSims_c (i := 22) (s_iret hC dX1_readOr_41 rfl hr hlk nar_qZ) ?_
  refine aSims_c (i := 23) (s_aload_n hC dX1_readOr_42 rfl rfl) ?_
  refine aSims_c (i := 24) (s_get hC dX1_readOr_43 rfl rfl w_154 rfl rfl inB1 (by decide)) ?_
  refine aSims_c (i := 25) (s_bipush hC dX1_readOr_46 rfl rfl rfl) ?_
  refine aSims_c (i := 26) (s_callV (n := 1) hC dX1_readOr_48 rfl rfl (hE 38 _ _ _ _ rfl) (hF _ (by decide)) w_370 w_367 w_368 w_369 w_98 rfl (by decide +kernel)) ?_
  refine aSims_c (i := 27) (s_iinc hC dX1_readOr_51 rfl rfl) ?_
  refine aSims_c (i := 28) (s_goto hC dX1_readOr_54 rfl rfl) ?_
  refine aSims_c (i := 29) (s_iconst hC dX1_readOr_57 rfl rfl rfl) ?_
  refine aSims_c (i := 30) (s_iret hC dX1_readOr_58 rfl hr hlk nar_qZ) ?_
  exact aSims_n
set_option maxHeartbeats 4000000 in
set_option maxRecDepth 20000 in
theorem sm_X1_readAnd (hC : aC p s m args c cX1_readAnd 3 RX1 D cA ad bs n0 H0 X) (hF : ∀ ml, ml ≤ 41 → aFit R d ml) (hRm : 16 ≤ R.frames ∧ 1000 ≤ R.locals) (hE : aCalls l D cA ad bs X d E) (hr : meth.sig.returnType = (some .boolean)) (hlk : meth.locks = false) : aSims (fun f i => aSim p l e R s m args below meth c (aEnd below s args D cA ad bs n0 z0 rv hf) 3 D cA ad bs n0 z0 H0 (apc pc_X1_readAnd) rv hf E f i) (cd_X1_readAnd) 0 := by
  unfold cd_X1_readAnd
  refine aSims_c (i := 0) (s_aload_n hC dX1_readAnd_0 rfl rfl) ?_
  refine aSims_c (i := 1) (s_iload_n hC dX1_readAnd_1 rfl rfl) ?_
  refine aSims_c (i := 2) (s_callV (n := 1) hC dX1_readAnd_2 rfl rfl (hE 18 _ _ _ _ rfl) (hF _ (by decide)) w_350 w_347 w_349 w_10 w_97 rfl (by decide +kernel)) ?_
  refine aSims_c (i := 3) (s_if_ne hC dX1_readAnd_5 rfl rfl rfl) ?_
  refine aSims_c (i := 4) (s_iconst hC dX1_readAnd_8 rfl rfl rfl) ?_
  refine aSims_c (i := 5) (s_iret hC dX1_readAnd_9 rfl hr hlk nar_qZ) ?_
  refine aSims_c (i := 6) (s_iconst hC dX1_readAnd_10 rfl rfl rfl) ?_
  refine aSims_c (i := 7) (s_istore_n hC dX1_readAnd_11 rfl rfl) ?_
  refine aSims_c (i := 8) (s_iload_n hC dX1_readAnd_12 rfl rfl) ?_
  refine aSims_c (i := 9) (s_sipush hC dX1_readAnd_13 rfl rfl rfl) ?_
  refine aSims_c (i := 10) (s_icmp_ge hC dX1_readAnd_16 rfl rfl rfl) ?_
  refine aSims_c (i := 11) (s_aload_n hC dX1_readAnd_19 rfl rfl) ?_
  refine aSims_c (i := 12) (s_get hC dX1_readAnd_20 rfl rfl w_155 rfl rfl inB1 (by decide)) ?_
  refine aSims_c (i := 13) (s_bipush hC dX1_readAnd_23 rfl rfl rfl) ?_
  refine aSims_c (i := 14) (s_icmp_ne hC dX1_readAnd_25 rfl rfl rfl) ?_
  refine aSims_c (i := 15) (s_aload_n hC dX1_readAnd_28 rfl rfl) ?_
  refine aSims_c (i := 16) (s_callV (n := 0) hC dX1_readAnd_29 rfl rfl (hE 23 _ _ _ _ rfl) (hF _ (by decide)) w_296 w_293 w_295 w_0 w_97 rfl (by decide +kernel)) ?_
  refine aSims_c (i := 17) (s_aload_n hC dX1_readAnd_32 rfl rfl) ?_
  refine aSims_c (i := 18) (s_iload_n hC dX1_readAnd_33 rfl rfl) ?_
  refine aSims_c (i := 19) (s_callV (n := 1) hC dX1_readAnd_34 rfl rfl (hE 18 _ _ _ _ rfl) (hF _ (by decide)) w_350 w_347 w_349 w_10 w_97 rfl (by decide +kernel)) ?_
  refine aSims_c (i := 20) (s_if_ne hC dX1_readAnd_37 rfl rfl rfl) ?_
  refine aSims_c (i := 21) (s_iconst hC dX1_readAnd_40 rfl rfl rfl) ?_
  refine aSims_c (i := 22) (s_iret hC dX1_readAnd_41 rfl hr hlk nar_qZ) ?_
  refine aSims_c (i := 23) (s_aload_n hC dX1_readAnd_42 rfl rfl) ?_
  refine aSims_c (i := 24) (s_get hC dX1_readAnd_43 rfl rfl w_154 rfl rfl inB1 (by decide)) ?_
  refine aSims_c (i := 25) (s_bipush hC dX1_readAnd_46 rfl rfl rfl) ?_
  refine aSims_c (i := 26) (s_callV (n := 1) hC dX1_readAnd_48 rfl rfl (hE 38 _ _ _ _ rfl) (hF _ (by decide)) w_370 w_367 w_368 w_369 w_98 rfl (by decide +kernel)) ?_
  refine aSims_c (i := 27) (s_iinc hC dX1_readAnd_51 rfl rfl) ?_
  refine aSims_c (i := 28) (s_goto hC dX1_readAnd_54 rfl rfl) ?_
  refine aSims_c (i := 29) (s_iconst hC dX1_readAnd_57 rfl rfl rfl) ?_
  refine aSims_c (i := 30) (s_iret hC dX1_readAnd_58 rfl hr hlk nar_qZ) ?_
  exact aSims_n
set_option maxHeartbeats 4000000 in
set_option maxRecDepth 20000 in
theorem sm_X1_readNot (hC : aC p s m args c cX1_readNot 2 RX1 D cA ad bs n0 H0 X) (hF : ∀ ml, ml ≤ 41 → aFit R d ml) (hRm : 16 ≤ R.frames ∧ 1000 ≤ R.locals) (hE : aCalls l D cA ad bs X d E) (hr : meth.sig.returnType = (some .boolean)) (hlk : meth.locks = false) : aSims (fun f i => aSim p l e R s m args below meth c (aEnd below s args D cA ad bs n0 z0 rv hf) 2 D cA ad bs n0 z0 H0 (apc pc_X1_readNot) rv hf E f i) (cd_X1_readNot) 0 := by
  unfold cd_X1_readNot
  refine aSims_c (i := 0) (s_aload_n hC dX1_readNot_0 rfl rfl) ?_
  refine aSims_c (i := 1) (s_get hC dX1_readNot_1 rfl rfl w_155 rfl rfl inB1 (by decide)) ?_
  refine aSims_c (i := 2) (s_bipush hC dX1_readNot_4 rfl rfl rfl) ?_
  refine aSims_c (i := 3) (s_icmp_eq hC dX1_readNot_6 rfl rfl rfl) ?_
  refine aSims_c (i := 4) (s_aload_n hC dX1_readNot_9 rfl rfl) ?_
  refine aSims_c (i := 5) (s_iload_n hC dX1_readNot_10 rfl rfl) ?_
  refine aSims_c (i := 6) (s_callV (n := 1) hC dX1_readNot_11 rfl rfl (hE 19 _ _ _ _ rfl) (hF _ (by decide)) w_354 w_351 w_353 w_11 w_97 rfl (by decide +kernel)) ?_
  refine aSims_c (i := 7) (s_iret hC dX1_readNot_14 rfl hr hlk nar_qZ) ?_
  refine aSims_c (i := 8) (s_iload_n hC dX1_readNot_15 rfl rfl) ?_
  refine aSims_c (i := 9) (s_iconst hC dX1_readNot_16 rfl rfl rfl) ?_
  refine aSims_c (i := 10) (s_icmp_lt hC dX1_readNot_17 rfl rfl rfl) ?_
  refine aSims_c (i := 11) (s_iconst hC dX1_readNot_20 rfl rfl rfl) ?_
  refine aSims_c (i := 12) (s_iret hC dX1_readNot_21 rfl hr hlk nar_qZ) ?_
  refine aSims_c (i := 13) (s_aload_n hC dX1_readNot_22 rfl rfl) ?_
  refine aSims_c (i := 14) (s_callV (n := 0) hC dX1_readNot_23 rfl rfl (hE 23 _ _ _ _ rfl) (hF _ (by decide)) w_296 w_293 w_295 w_0 w_97 rfl (by decide +kernel)) ?_
  refine aSims_c (i := 15) (s_aload_n hC dX1_readNot_26 rfl rfl) ?_
  refine aSims_c (i := 16) (s_iload_n hC dX1_readNot_27 rfl rfl) ?_
  refine aSims_c (i := 17) (s_iconst hC dX1_readNot_28 rfl rfl rfl) ?_
  refine aSims_c (i := 18) (s_iadd hC dX1_readNot_29 rfl rfl) ?_
  refine aSims_c (i := 19) (s_callV (n := 1) hC dX1_readNot_30 rfl rfl (hE 18 _ _ _ _ rfl) (hF _ (by decide)) w_350 w_347 w_349 w_10 w_97 rfl (by decide +kernel)) ?_
  refine aSims_c (i := 20) (s_if_ne hC dX1_readNot_33 rfl rfl rfl) ?_
  refine aSims_c (i := 21) (s_iconst hC dX1_readNot_36 rfl rfl rfl) ?_
  refine aSims_c (i := 22) (s_iret hC dX1_readNot_37 rfl hr hlk nar_qZ) ?_
  refine aSims_c (i := 23) (s_aload_n hC dX1_readNot_38 rfl rfl) ?_
  refine aSims_c (i := 24) (s_get hC dX1_readNot_39 rfl rfl w_154 rfl rfl inB1 (by decide)) ?_
  refine aSims_c (i := 25) (s_bipush hC dX1_readNot_42 rfl rfl rfl) ?_
  refine aSims_c (i := 26) (s_callV (n := 1) hC dX1_readNot_44 rfl rfl (hE 38 _ _ _ _ rfl) (hF _ (by decide)) w_370 w_367 w_368 w_369 w_98 rfl (by decide +kernel)) ?_
  refine aSims_c (i := 27) (s_iconst hC dX1_readNot_47 rfl rfl rfl) ?_
  refine aSims_c (i := 28) (s_iret hC dX1_readNot_48 rfl hr hlk nar_qZ) ?_
  exact aSims_n
set_option maxHeartbeats 4000000 in
set_option maxRecDepth 20000 in
theorem sm_X1_readLike (hC : aC p s m args c cX1_readLike 3 RX1 D cA ad bs n0 H0 X) (hF : ∀ ml, ml ≤ 41 → aFit R d ml) (hRm : 16 ≤ R.frames ∧ 1000 ≤ R.locals) (hE : aCalls l D cA ad bs X d E) (hr : meth.sig.returnType = (some .boolean)) (hlk : meth.locks = false) : aSims (fun f i => aSim p l e R s m args below meth c (aEnd below s args D cA ad bs n0 z0 rv hf) 3 D cA ad bs n0 z0 H0 (apc pc_X1_readLike) rv hf E f i) (cd_X1_readLike) 0 := by
  unfold cd_X1_readLike
  refine aSims_c (i := 0) (s_aload_n hC dX1_readLike_0 rfl rfl) ?_
  refine aSims_c (i := 1) (s_iload_n hC dX1_readLike_1 rfl rfl) ?_
  refine aSims_c (i := 2) (s_callV (n := 1) hC dX1_readLike_2 rfl rfl (hE 20 _ _ _ _ rfl) (hF _ (by decide)) w_358 w_355 w_357 w_12 w_97 rfl (by decide +kernel)) ?_
  refine aSims_c (i := 3) (s_if_ne hC dX1_readLike_5 rfl rfl rfl) ?_
  refine aSims_c (i := 4) (s_iconst hC dX1_readLike_8 rfl rfl rfl) ?_
  refine aSims_c (i := 5) (s_iret hC dX1_readLike_9 rfl hr hlk nar_qZ) ?_
  refine aSims_c (i := 6) (s_aload_n hC dX1_readLike_10 rfl rfl) ?_
  refine aSims_c (i := 7) (s_get hC dX1_readLike_11 rfl rfl w_155 rfl rfl inB1 (by decide)) ?_
  refine aSims_c (i := 8) (s_bipush hC dX1_readLike_14 rfl rfl rfl) ?_
  refine aSims_c (i := 9) (s_icmp_eq hC dX1_readLike_16 rfl rfl rfl) ?_
  refine aSims_c (i := 10) (s_aload_n hC dX1_readLike_19 rfl rfl) ?_
  refine aSims_c (i := 11) (s_get hC dX1_readLike_20 rfl rfl w_155 rfl rfl inB1 (by decide)) ?_
  refine aSims_c (i := 12) (s_bipush hC dX1_readLike_23 rfl rfl rfl) ?_
  refine aSims_c (i := 13) (s_icmp_eq hC dX1_readLike_25 rfl rfl rfl) ?_
  refine aSims_c (i := 14) (s_iconst hC dX1_readLike_28 rfl rfl rfl) ?_
  refine aSims_c (i := 15) (s_iret hC dX1_readLike_29 rfl hr hlk nar_qZ) ?_
  refine aSims_c (i := 16) (s_aload_n hC dX1_readLike_30 rfl rfl) ?_
  refine aSims_c (i := 17) (s_get hC dX1_readLike_31 rfl rfl w_155 rfl rfl inB1 (by decide)) ?_
  refine aSims_c (i := 18) (s_bipush hC dX1_readLike_34 rfl rfl rfl) ?_
  refine aSims_c (i := 19) (s_icmp_ne hC dX1_readLike_36 rfl rfl rfl) ?_
  refine aSims_c (i := 20) (s_bipush hC dX1_readLike_39 rfl rfl rfl) ?_
  refine aSims_c (i := 21) (s_goto hC dX1_readLike_41 rfl rfl) ?_
  refine aSims_c (i := 22) (s_bipush hC dX1_readLike_44 rfl rfl rfl) ?_
  refine aSims_c (i := 23) (s_istore_n hC dX1_readLike_46 rfl rfl) ?_
  refine aSims_c (i := 24) (s_aload_n hC dX1_readLike_47 rfl rfl) ?_
  refine aSims_c (i := 25) (s_callV (n := 0) hC dX1_readLike_48 rfl rfl (hE 23 _ _ _ _ rfl) (hF _ (by decide)) w_296 w_293 w_295 w_0 w_97 rfl (by decide +kernel)) ?_
  refine aSims_c (i := 26) (s_aload_n hC dX1_readLike_51 rfl rfl) ?_
  refine aSims_c (i := 27) (s_iload_n hC dX1_readLike_52 rfl rfl) ?_
  refine aSims_c (i := 28) (s_callV (n := 1) hC dX1_readLike_53 rfl rfl (hE 20 _ _ _ _ rfl) (hF _ (by decide)) w_358 w_355 w_357 w_12 w_97 rfl (by decide +kernel)) ?_
  refine aSims_c (i := 29) (s_if_ne hC dX1_readLike_56 rfl rfl rfl) ?_
  refine aSims_c (i := 30) (s_iconst hC dX1_readLike_59 rfl rfl rfl) ?_
  refine aSims_c (i := 31) (s_iret hC dX1_readLike_60 rfl hr hlk nar_qZ) ?_
  refine aSims_c (i := 32) (s_aload_n hC dX1_readLike_61 rfl rfl) ?_
  refine aSims_c (i := 33) (s_get hC dX1_readLike_62 rfl rfl w_154 rfl rfl inB1 (by decide)) ?_
  refine aSims_c (i := 34) (s_iload_n hC dX1_readLike_65 rfl rfl) ?_
  refine aSims_c (i := 35) (s_callV (n := 1) hC dX1_readLike_66 rfl rfl (hE 38 _ _ _ _ rfl) (hF _ (by decide)) w_370 w_367 w_368 w_369 w_98 rfl (by decide +kernel)) ?_
  refine aSims_c (i := 36) (s_iconst hC dX1_readLike_69 rfl rfl rfl) ?_
  refine aSims_c (i := 37) (s_iret hC dX1_readLike_70 rfl hr hlk nar_qZ) ?_
  exact aSims_n
set_option maxHeartbeats 4000000 in
set_option maxRecDepth 20000 in
theorem sm_X1_readSum (hC : aC p s m args c cX1_readSum 4 RX1 D cA ad bs n0 H0 X) (hF : ∀ ml, ml ≤ 41 → aFit R d ml) (hRm : 16 ≤ R.frames ∧ 1000 ≤ R.locals) (hE : aCalls l D cA ad bs X d E) (hr : meth.sig.returnType = (some .boolean)) (hlk : meth.locks = false) : aSims (fun f i => aSim p l e R s m args below meth c (aEnd below s args D cA ad bs n0 z0 rv hf) 4 D cA ad bs n0 z0 H0 (apc pc_X1_readSum) rv hf E f i) (cd_X1_readSum) 0 := by
  unfold cd_X1_readSum
  refine aSims_c (i := 0) (s_aload_n hC dX1_readSum_0 rfl rfl) ?_
  refine aSims_c (i := 1) (s_iload_n hC dX1_readSum_1 rfl rfl) ?_
  refine aSims_c (i := 2) (s_callV (n := 1) hC dX1_readSum_2 rfl rfl (hE 21 _ _ _ _ rfl) (hF _ (by decide)) w_362 w_359 w_361 w_13 w_97 rfl (by decide +kernel)) ?_
  refine aSims_c (i := 3) (s_if_ne hC dX1_readSum_5 rfl rfl rfl) ?_
  refine aSims_c (i := 4) (s_iconst hC dX1_readSum_8 rfl rfl rfl) ?_
  refine aSims_c (i := 5) (s_iret hC dX1_readSum_9 rfl hr hlk nar_qZ) ?_
  refine aSims_c (i := 6) (s_iconst hC dX1_readSum_10 rfl rfl rfl) ?_
  refine aSims_c (i := 7) (s_istore_n hC dX1_readSum_11 rfl rfl) ?_
  refine aSims_c (i := 8) (s_iload_n hC dX1_readSum_12 rfl rfl) ?_
  refine aSims_c (i := 9) (s_sipush hC dX1_readSum_13 rfl rfl rfl) ?_
  refine aSims_c (i := 10) (s_icmp_ge hC dX1_readSum_16 rfl rfl rfl) ?_
  refine aSims_c (i := 11) (s_aload_n hC dX1_readSum_19 rfl rfl) ?_
  refine aSims_c (i := 12) (s_get hC dX1_readSum_20 rfl rfl w_155 rfl rfl inB1 (by decide)) ?_
  refine aSims_c (i := 13) (s_bipush hC dX1_readSum_23 rfl rfl rfl) ?_
  refine aSims_c (i := 14) (s_icmp_eq hC dX1_readSum_25 rfl rfl rfl) ?_
  refine aSims_c (i := 15) (s_aload_n hC dX1_readSum_28 rfl rfl) ?_
  refine aSims_c (i := 16) (s_get hC dX1_readSum_29 rfl rfl w_155 rfl rfl inB1 (by decide)) ?_
  refine aSims_c (i := 17) (s_bipush hC dX1_readSum_32 rfl rfl rfl) ?_
  refine aSims_c (i := 18) (s_icmp_ne hC dX1_readSum_34 rfl rfl rfl) ?_
  refine aSims_c (i := 19) (s_aload_n hC dX1_readSum_37 rfl rfl) ?_
  refine aSims_c (i := 20) (s_get hC dX1_readSum_38 rfl rfl w_155 rfl rfl inB1 (by decide)) ?_
  refine aSims_c (i := 21) (s_bipush hC dX1_readSum_41 rfl rfl rfl) ?_
  refine aSims_c (i := 22) (s_icmp_ne hC dX1_readSum_43 rfl rfl rfl) ?_
  refine aSims_c (i := 23) (s_bipush hC dX1_readSum_46 rfl rfl rfl) ?_
  refine aSims_c (i := 24) (s_goto hC dX1_readSum_48 rfl rfl) ?_
  refine aSims_c (i := 25) (s_bipush hC dX1_readSum_51 rfl rfl rfl) ?_
  refine aSims_c (i := 26) (s_istore_n hC dX1_readSum_53 rfl rfl) ?_
  refine aSims_c (i := 27) (s_aload_n hC dX1_readSum_54 rfl rfl) ?_
  refine aSims_c (i := 28) (s_callV (n := 0) hC dX1_readSum_55 rfl rfl (hE 23 _ _ _ _ rfl) (hF _ (by decide)) w_296 w_293 w_295 w_0 w_97 rfl (by decide +kernel)) ?_
  refine aSims_c (i := 29) (s_aload_n hC dX1_readSum_58 rfl rfl) ?_
  refine aSims_c (i := 30) (s_iload_n hC dX1_readSum_59 rfl rfl) ?_
  refine aSims_c (i := 31) (s_callV (n := 1) hC dX1_readSum_60 rfl rfl (hE 21 _ _ _ _ rfl) (hF _ (by decide)) w_362 w_359 w_361 w_13 w_97 rfl (by decide +kernel)) ?_
  refine aSims_c (i := 32) (s_if_ne hC dX1_readSum_63 rfl rfl rfl) ?_
  refine aSims_c (i := 33) (s_iconst hC dX1_readSum_66 rfl rfl rfl) ?_
  refine aSims_c (i := 34) (s_iret hC dX1_readSum_67 rfl hr hlk nar_qZ) ?_
  refine aSims_c (i := 35) (s_aload_n hC dX1_readSum_68 rfl rfl) ?_
  refine aSims_c (i := 36) (s_get hC dX1_readSum_69 rfl rfl w_154 rfl rfl inB1 (by decide)) ?_
  refine aSims_c (i := 37) (s_iload_n hC dX1_readSum_72 rfl rfl) ?_
  refine aSims_c (i := 38) (s_callV (n := 1) hC dX1_readSum_73 rfl rfl (hE 38 _ _ _ _ rfl) (hF _ (by decide)) w_370 w_367 w_368 w_369 w_98 rfl (by decide +kernel)) ?_
  refine aSims_c (i := 39) (s_iinc hC dX1_readSum_76 rfl rfl) ?_
  refine aSims_c (i := 40) (s_goto hC dX1_readSum_79 rfl rfl) ?_
  refine aSims_c (i := 41) (s_iconst hC dX1_readSum_82 rfl rfl rfl) ?_
  refine aSims_c (i := 42) (s_iret hC dX1_readSum_83 rfl hr hlk nar_qZ) ?_
  exact aSims_n
set_option maxHeartbeats 4000000 in
set_option maxRecDepth 20000 in
theorem sm_X1_readTerm (hC : aC p s m args c cX1_readTerm 3 RX1 D cA ad bs n0 H0 X) (hF : ∀ ml, ml ≤ 41 → aFit R d ml) (hRm : 16 ≤ R.frames ∧ 1000 ≤ R.locals) (hE : aCalls l D cA ad bs X d E) (hr : meth.sig.returnType = (some .boolean)) (hlk : meth.locks = false) : aSims (fun f i => aSim p l e R s m args below meth c (aEnd below s args D cA ad bs n0 z0 rv hf) 3 D cA ad bs n0 z0 H0 (apc pc_X1_readTerm) rv hf E f i) (cd_X1_readTerm) 0 := by
  unfold cd_X1_readTerm
  refine aSims_c (i := 0) (s_aload_n hC dX1_readTerm_0 rfl rfl) ?_
  refine aSims_c (i := 1) (s_iload_n hC dX1_readTerm_1 rfl rfl) ?_
  refine aSims_c (i := 2) (s_callV (n := 1) hC dX1_readTerm_2 rfl rfl (hE 22 _ _ _ _ rfl) (hF _ (by decide)) w_366 w_363 w_365 w_14 w_97 rfl (by decide +kernel)) ?_
  refine aSims_c (i := 3) (s_if_ne hC dX1_readTerm_5 rfl rfl rfl) ?_
  refine aSims_c (i := 4) (s_iconst hC dX1_readTerm_8 rfl rfl rfl) ?_
  refine aSims_c (i := 5) (s_iret hC dX1_readTerm_9 rfl hr hlk nar_qZ) ?_
  refine aSims_c (i := 6) (s_iconst hC dX1_readTerm_10 rfl rfl rfl) ?_
  refine aSims_c (i := 7) (s_istore_n hC dX1_readTerm_11 rfl rfl) ?_
  refine aSims_c (i := 8) (s_iload_n hC dX1_readTerm_12 rfl rfl) ?_
  refine aSims_c (i := 9) (s_sipush hC dX1_readTerm_13 rfl rfl rfl) ?_
  refine aSims_c (i := 10) (s_icmp_ge hC dX1_readTerm_16 rfl rfl rfl) ?_
  refine aSims_c (i := 11) (s_aload_n hC dX1_readTerm_19 rfl rfl) ?_
  refine aSims_c (i := 12) (s_get hC dX1_readTerm_20 rfl rfl w_155 rfl rfl inB1 (by decide)) ?_
  refine aSims_c (i := 13) (s_bipush hC dX1_readTerm_23 rfl rfl rfl) ?_
  refine aSims_c (i := 14) (s_icmp_ne hC dX1_readTerm_25 rfl rfl rfl) ?_
  refine aSims_c (i := 15) (s_aload_n hC dX1_readTerm_28 rfl rfl) ?_
  refine aSims_c (i := 16) (s_callV (n := 0) hC dX1_readTerm_29 rfl rfl (hE 23 _ _ _ _ rfl) (hF _ (by decide)) w_296 w_293 w_295 w_0 w_97 rfl (by decide +kernel)) ?_
  refine aSims_c (i := 17) (s_aload_n hC dX1_readTerm_32 rfl rfl) ?_
  refine aSims_c (i := 18) (s_iload_n hC dX1_readTerm_33 rfl rfl) ?_
  refine aSims_c (i := 19) (s_callV (n := 1) hC dX1_readTerm_34 rfl rfl (hE 22 _ _ _ _ rfl) (hF _ (by decide)) w_366 w_363 w_365 w_14 w_97 rfl (by decide +kernel)) ?_
  refine aSims_c (i := 20) (s_if_ne hC dX1_readTerm_37 rfl rfl rfl) ?_
  refine aSims_c (i := 21) (s_iconst hC dX1_readTerm_40 rfl rfl rfl) ?_
  refine aSims_c (i := 22) (s_iret hC dX1_readTerm_41 rfl hr hlk nar_qZ) ?_
  refine aSims_c (i := 23) (s_aload_n hC dX1_readTerm_42 rfl rfl) ?_
  refine aSims_c (i := 24) (s_get hC dX1_readTerm_43 rfl rfl w_154 rfl rfl inB1 (by decide)) ?_
  refine aSims_c (i := 25) (s_bipush hC dX1_readTerm_46 rfl rfl rfl) ?_
  refine aSims_c (i := 26) (s_callV (n := 1) hC dX1_readTerm_48 rfl rfl (hE 38 _ _ _ _ rfl) (hF _ (by decide)) w_370 w_367 w_368 w_369 w_98 rfl (by decide +kernel)) ?_
  refine aSims_c (i := 27) (s_iinc hC dX1_readTerm_51 rfl rfl) ?_
  refine aSims_c (i := 28) (s_goto hC dX1_readTerm_54 rfl rfl) ?_
  refine aSims_c (i := 29) (s_iconst hC dX1_readTerm_57 rfl rfl rfl) ?_
  refine aSims_c (i := 30) (s_iret hC dX1_readTerm_58 rfl hr hlk nar_qZ) ?_
  exact aSims_n
set_option maxHeartbeats 4000000 in
set_option maxRecDepth 20000 in
theorem sm_X1_readOne (hC : aC p s m args c cX1_readOne 3 RX1 D cA ad bs n0 H0 X) (hF : ∀ ml, ml ≤ 41 → aFit R d ml) (hRm : 16 ≤ R.frames ∧ 1000 ≤ R.locals) (hE : aCalls l D cA ad bs X d E) (hr : meth.sig.returnType = (some .boolean)) (hlk : meth.locks = false) : aSims (fun f i => aSim p l e R s m args below meth c (aEnd below s args D cA ad bs n0 z0 rv hf) 3 D cA ad bs n0 z0 H0 (apc pc_X1_readOne) rv hf E f i) (cd_X1_readOne) 0 := by
  unfold cd_X1_readOne
  refine aSims_c (i := 0) (s_aload_n hC dX1_readOne_0 rfl rfl) ?_
  refine aSims_c (i := 1) (s_get hC dX1_readOne_1 rfl rfl w_155 rfl rfl inB1 (by decide)) ?_
  refine aSims_c (i := 2) (s_bipush hC dX1_readOne_4 rfl rfl rfl) ?_
  refine aSims_c (i := 3) (s_icmp_lt hC dX1_readOne_6 rfl rfl rfl) ?_
  refine aSims_c (i := 4) (s_aload_n hC dX1_readOne_9 rfl rfl) ?_
  refine aSims_c (i := 5) (s_get hC dX1_readOne_10 rfl rfl w_155 rfl rfl inB1 (by decide)) ?_
  refine aSims_c (i := 6) (s_bipush hC dX1_readOne_13 rfl rfl rfl) ?_
  refine aSims_c (i := 7) (s_icmp_ge hC dX1_readOne_15 rfl rfl rfl) ?_
  refine aSims_c (i := 8) (s_iconst hC dX1_readOne_18 rfl rfl rfl) ?_
  refine aSims_c (i := 9) (s_goto hC dX1_readOne_19 rfl rfl) ?_
  refine aSims_c (i := 10) (s_iconst hC dX1_readOne_22 rfl rfl rfl) ?_
  refine aSims_c (i := 11) (s_istore_n hC dX1_readOne_23 rfl rfl) ?_
  refine aSims_c (i := 12) (s_aload_n hC dX1_readOne_24 rfl rfl) ?_
  refine aSims_c (i := 13) (s_get hC dX1_readOne_25 rfl rfl w_155 rfl rfl inB1 (by decide)) ?_
  refine aSims_c (i := 14) (s_iconst hC dX1_readOne_28 rfl rfl rfl) ?_
  refine aSims_c (i := 15) (s_icmp_eq hC dX1_readOne_29 rfl rfl rfl) ?_
  refine aSims_c (i := 16) (s_iload_n hC dX1_readOne_32 rfl rfl) ?_
  refine aSims_c (i := 17) (s_if_eq hC dX1_readOne_33 rfl rfl rfl) ?_
  refine aSims_c (i := 18) (s_aload_n hC dX1_readOne_36 rfl rfl) ?_
  refine aSims_c (i := 19) (s_get hC dX1_readOne_37 rfl rfl w_154 rfl rfl inB1 (by decide)) ?_
  refine aSims_c (i := 20) (s_iload_n hC dX1_readOne_40 rfl rfl) ?_
  refine aSims_c (i := 21) (s_if_eq hC dX1_readOne_41 rfl rfl rfl) ?_
  refine aSims_c (i := 22) (s_bipush hC dX1_readOne_44 rfl rfl rfl) ?_
  refine aSims_c (i := 23) (s_aload_n hC dX1_readOne_46 rfl rfl) ?_
  refine aSims_c (i := 24) (s_get hC dX1_readOne_47 rfl rfl w_155 rfl rfl inB1 (by decide)) ?_
  refine aSims_c (i := 25) (s_isub hC dX1_readOne_50 rfl rfl) ?_
  refine aSims_c (i := 26) (s_goto hC dX1_readOne_51 rfl rfl) ?_
  refine aSims_c (i := 27) (s_aload_n hC dX1_readOne_54 rfl rfl) ?_
  refine aSims_c (i := 28) (s_get hC dX1_readOne_55 rfl rfl w_158 rfl rfl inB1 (by decide)) ?_
  refine aSims_c (i := 29) (s_callV (n := 1) hC dX1_readOne_58 rfl rfl (hE 38 _ _ _ _ rfl) (hF _ (by decide)) w_370 w_367 w_368 w_369 w_98 rfl (by decide +kernel)) ?_
  refine aSims_c (i := 30) (s_aload_n hC dX1_readOne_61 rfl rfl) ?_
  refine aSims_c (i := 31) (s_callV (n := 0) hC dX1_readOne_62 rfl rfl (hE 23 _ _ _ _ rfl) (hF _ (by decide)) w_296 w_293 w_295 w_0 w_97 rfl (by decide +kernel)) ?_
  refine aSims_c (i := 32) (s_iconst hC dX1_readOne_65 rfl rfl rfl) ?_
  refine aSims_c (i := 33) (s_iret hC dX1_readOne_66 rfl hr hlk nar_qZ) ?_
  refine aSims_c (i := 34) (s_iload_n hC dX1_readOne_67 rfl rfl) ?_
  refine aSims_c (i := 35) (s_iconst hC dX1_readOne_68 rfl rfl rfl) ?_
  refine aSims_c (i := 36) (s_icmp_lt hC dX1_readOne_69 rfl rfl rfl) ?_
  refine aSims_c (i := 37) (s_iconst hC dX1_readOne_72 rfl rfl rfl) ?_
  refine aSims_c (i := 38) (s_iret hC dX1_readOne_73 rfl hr hlk nar_qZ) ?_
  refine aSims_c (i := 39) (s_aload_n hC dX1_readOne_74 rfl rfl) ?_
  refine aSims_c (i := 40) (s_get hC dX1_readOne_75 rfl rfl w_155 rfl rfl inB1 (by decide)) ?_
  refine aSims_c (i := 41) (s_bipush hC dX1_readOne_78 rfl rfl rfl) ?_
  refine aSims_c (i := 42) (s_icmp_ne hC dX1_readOne_80 rfl rfl rfl) ?_
  refine aSims_c (i := 43) (s_aload_n hC dX1_readOne_83 rfl rfl) ?_
  refine aSims_c (i := 44) (s_callV (n := 0) hC dX1_readOne_84 rfl rfl (hE 23 _ _ _ _ rfl) (hF _ (by decide)) w_296 w_293 w_295 w_0 w_97 rfl (by decide +kernel)) ?_
  refine aSims_c (i := 45) (s_aload_n hC dX1_readOne_87 rfl rfl) ?_
  refine aSims_c (i := 46) (s_iload_n hC dX1_readOne_88 rfl rfl) ?_
  refine aSims_c (i := 47) (s_iconst hC dX1_readOne_89 rfl rfl rfl) ?_
  refine aSims_c (i := 48) (s_iadd hC dX1_readOne_90 rfl rfl) ?_
  refine aSims_c (i := 49) (s_callV (n := 1) hC dX1_readOne_91 rfl rfl (hE 22 _ _ _ _ rfl) (hF _ (by decide)) w_366 w_363 w_365 w_14 w_97 rfl (by decide +kernel)) ?_
  refine aSims_c (i := 50) (s_if_ne hC dX1_readOne_94 rfl rfl rfl) ?_
  refine aSims_c (i := 51) (s_iconst hC dX1_readOne_97 rfl rfl rfl) ?_
  refine aSims_c (i := 52) (s_iret hC dX1_readOne_98 rfl hr hlk nar_qZ) ?_
  refine aSims_c (i := 53) (s_aload_n hC dX1_readOne_99 rfl rfl) ?_
  refine aSims_c (i := 54) (s_get hC dX1_readOne_100 rfl rfl w_154 rfl rfl inB1 (by decide)) ?_
  refine aSims_c (i := 55) (s_bipush hC dX1_readOne_103 rfl rfl rfl) ?_
  refine aSims_c (i := 56) (s_callV (n := 1) hC dX1_readOne_105 rfl rfl (hE 38 _ _ _ _ rfl) (hF _ (by decide)) w_370 w_367 w_368 w_369 w_98 rfl (by decide +kernel)) ?_
  refine aSims_c (i := 57) (s_iconst hC dX1_readOne_108 rfl rfl rfl) ?_
  refine aSims_c (i := 58) (s_iret hC dX1_readOne_109 rfl hr hlk nar_qZ) ?_
  refine aSims_c (i := 59) (s_aload_n hC dX1_readOne_110 rfl rfl) ?_
  refine aSims_c (i := 60) (s_get hC dX1_readOne_111 rfl rfl w_155 rfl rfl inB1 (by decide)) ?_
  refine aSims_c (i := 61) (s_bipush hC dX1_readOne_114 rfl rfl rfl) ?_
  refine aSims_c (i := 62) (s_icmp_eq hC dX1_readOne_116 rfl rfl rfl) ?_
  refine aSims_c (i := 63) (s_iconst hC dX1_readOne_119 rfl rfl rfl) ?_
  refine aSims_c (i := 64) (s_iret hC dX1_readOne_120 rfl hr hlk nar_qZ) ?_
  refine aSims_c (i := 65) (s_aload_n hC dX1_readOne_121 rfl rfl) ?_
  refine aSims_c (i := 66) (s_callV (n := 0) hC dX1_readOne_122 rfl rfl (hE 23 _ _ _ _ rfl) (hF _ (by decide)) w_296 w_293 w_295 w_0 w_97 rfl (by decide +kernel)) ?_
  refine aSims_c (i := 67) (s_aload_n hC dX1_readOne_125 rfl rfl) ?_
  refine aSims_c (i := 68) (s_iload_n hC dX1_readOne_126 rfl rfl) ?_
  refine aSims_c (i := 69) (s_iconst hC dX1_readOne_127 rfl rfl rfl) ?_
  refine aSims_c (i := 70) (s_iadd hC dX1_readOne_128 rfl rfl) ?_
  refine aSims_c (i := 71) (s_callV (n := 1) hC dX1_readOne_129 rfl rfl (hE 16 _ _ _ _ rfl) (hF _ (by decide)) w_342 w_339 w_341 w_8 w_97 rfl (by decide +kernel)) ?_
  refine aSims_c (i := 72) (s_if_eq hC dX1_readOne_132 rfl rfl rfl) ?_
  refine aSims_c (i := 73) (s_aload_n hC dX1_readOne_135 rfl rfl) ?_
  refine aSims_c (i := 74) (s_get hC dX1_readOne_136 rfl rfl w_155 rfl rfl inB1 (by decide)) ?_
  refine aSims_c (i := 75) (s_bipush hC dX1_readOne_139 rfl rfl rfl) ?_
  refine aSims_c (i := 76) (s_icmp_eq hC dX1_readOne_141 rfl rfl rfl) ?_
  refine aSims_c (i := 77) (s_iconst hC dX1_readOne_144 rfl rfl rfl) ?_
  refine aSims_c (i := 78) (s_iret hC dX1_readOne_145 rfl hr hlk nar_qZ) ?_
  refine aSims_c (i := 79) (s_aload_n hC dX1_readOne_146 rfl rfl) ?_
  refine aSims_c (i := 80) (s_callV (n := 0) hC dX1_readOne_147 rfl rfl (hE 23 _ _ _ _ rfl) (hF _ (by decide)) w_296 w_293 w_295 w_0 w_97 rfl (by decide +kernel)) ?_
  refine aSims_c (i := 81) (s_iconst hC dX1_readOne_150 rfl rfl rfl) ?_
  refine aSims_c (i := 82) (s_iret hC dX1_readOne_151 rfl hr hlk nar_qZ) ?_
  exact aSims_n
set_option maxHeartbeats 4000000 in
set_option maxRecDepth 20000 in
theorem sm_X1_step (hC : aC p s m args c cX1_step 2 RX1 D cA ad bs n0 H0 X) (hF : ∀ ml, ml ≤ 41 → aFit R d ml) (hRm : 16 ≤ R.frames ∧ 1000 ≤ R.locals) (hE : aCalls l D cA ad bs X d E) (hr : meth.sig.returnType = none) (hlk : meth.locks = false) : aSims (fun f i => aSim p l e R s m args below meth c (aEnd below s args D cA ad bs n0 z0 rv hf) 2 D cA ad bs n0 z0 H0 (apc pc_X1_step) rv hf E f i) (cd_X1_step) 0 := by
  unfold cd_X1_step
  refine aSims_c (i := 0) (s_aload_n hC dX1_step_0 rfl rfl) ?_
  refine aSims_c (i := 1) (s_aload_n hC dX1_step_1 rfl rfl) ?_
  refine aSims_c (i := 2) (s_get hC dX1_step_2 rfl rfl w_157 rfl rfl inB1 (by decide)) ?_
  refine aSims_c (i := 3) (s_put hC dX1_step_5 rfl rfl w_156 rfl rfl inB1 tyX1_ok nmX1 (by decide) rfl) ?_
  refine aSims_c (i := 4) (s_iconst hC dX1_step_8 rfl rfl rfl) ?_
  refine aSims_c (i := 5) (s_istore_n hC dX1_step_9 rfl rfl) ?_
  refine aSims_c (i := 6) (s_iload_n hC dX1_step_10 rfl rfl) ?_
  refine aSims_c (i := 7) (s_sipush hC dX1_step_11 rfl rfl rfl) ?_
  refine aSims_c (i := 8) (s_icmp_ge hC dX1_step_14 rfl rfl rfl) ?_
  refine aSims_c (i := 9) (s_aload_n hC dX1_step_17 rfl rfl) ?_
  refine aSims_c (i := 10) (s_aload_n hC dX1_step_18 rfl rfl) ?_
  refine aSims_c (i := 11) (s_get hC dX1_step_19 rfl rfl w_156 rfl rfl inB1 (by decide)) ?_
  refine aSims_c (i := 12) (s_callV (n := 1) hC dX1_step_22 rfl rfl (hE 25 _ _ _ _ rfl) (hF _ (by decide)) w_300 w_297 w_299 w_1 w_97 rfl (by decide +kernel)) ?_
  refine aSims_c (i := 13) (s_bipush hC dX1_step_25 rfl rfl rfl) ?_
  refine aSims_c (i := 14) (s_icmp_eq hC dX1_step_27 rfl rfl rfl) ?_
  refine aSims_c (i := 15) (s_aload_n hC dX1_step_30 rfl rfl) ?_
  refine aSims_c (i := 16) (s_aload_n hC dX1_step_31 rfl rfl) ?_
  refine aSims_c (i := 17) (s_get hC dX1_step_32 rfl rfl w_156 rfl rfl inB1 (by decide)) ?_
  refine aSims_c (i := 18) (s_callV (n := 1) hC dX1_step_35 rfl rfl (hE 25 _ _ _ _ rfl) (hF _ (by decide)) w_300 w_297 w_299 w_1 w_97 rfl (by decide +kernel)) ?_
  refine aSims_c (i := 19) (s_bipush hC dX1_step_38 rfl rfl rfl) ?_
  refine aSims_c (i := 20) (s_icmp_ne hC dX1_step_40 rfl rfl rfl) ?_
  refine aSims_c (i := 21) (s_aload_n hC dX1_step_43 rfl rfl) ?_
  refine aSims_c (i := 22) (s_dup hC dX1_step_44 rfl rfl) ?_
  refine aSims_c (i := 23) (s_get hC dX1_step_45 rfl rfl w_156 rfl rfl inB1 (by decide)) ?_
  refine aSims_c (i := 24) (s_iconst hC dX1_step_48 rfl rfl rfl) ?_
  refine aSims_c (i := 25) (s_iadd hC dX1_step_49 rfl rfl) ?_
  refine aSims_c (i := 26) (s_put hC dX1_step_50 rfl rfl w_156 rfl rfl inB1 tyX1_ok nmX1 (by decide) rfl) ?_
  refine aSims_c (i := 27) (s_iinc hC dX1_step_53 rfl rfl) ?_
  refine aSims_c (i := 28) (s_goto hC dX1_step_56 rfl rfl) ?_
  refine aSims_c (i := 29) (s_aload_n hC dX1_step_59 rfl rfl) ?_
  refine aSims_c (i := 30) (s_aload_n hC dX1_step_60 rfl rfl) ?_
  refine aSims_c (i := 31) (s_get hC dX1_step_61 rfl rfl w_156 rfl rfl inB1 (by decide)) ?_
  refine aSims_c (i := 32) (s_put hC dX1_step_64 rfl rfl w_157 rfl rfl inB1 tyX1_ok nmX1 (by decide) rfl) ?_
  refine aSims_c (i := 33) (s_aload_n hC dX1_step_67 rfl rfl) ?_
  refine aSims_c (i := 34) (s_get hC dX1_step_68 rfl rfl w_156 rfl rfl inB1 (by decide)) ?_
  refine aSims_c (i := 35) (s_aload_n hC dX1_step_71 rfl rfl) ?_
  refine aSims_c (i := 36) (s_get hC dX1_step_72 rfl rfl w_151 rfl rfl inB1 (by decide)) ?_
  refine aSims_c (i := 37) (s_icmp_lt hC dX1_step_75 rfl rfl rfl) ?_
  refine aSims_c (i := 38) (s_aload_n hC dX1_step_78 rfl rfl) ?_
  refine aSims_c (i := 39) (s_iconst hC dX1_step_79 rfl rfl rfl) ?_
  refine aSims_c (i := 40) (s_put hC dX1_step_80 rfl rfl w_155 rfl rfl inB1 tyX1_ok nmX1 (by decide) rfl) ?_
  refine aSims_c (i := 41) (s_goto hC dX1_step_83 rfl rfl) ?_
  refine aSims_c (i := 42) (s_aload_n hC dX1_step_86 rfl rfl) ?_
  refine aSims_c (i := 43) (s_aload_n hC dX1_step_87 rfl rfl) ?_
  refine aSims_c (i := 44) (s_get hC dX1_step_88 rfl rfl w_156 rfl rfl inB1 (by decide)) ?_
  refine aSims_c (i := 45) (s_callV (n := 1) hC dX1_step_91 rfl rfl (hE 25 _ _ _ _ rfl) (hF _ (by decide)) w_300 w_297 w_299 w_1 w_97 rfl (by decide +kernel)) ?_
  refine aSims_c (i := 46) (s_bipush hC dX1_step_94 rfl rfl rfl) ?_
  refine aSims_c (i := 47) (s_icmp_lt hC dX1_step_96 rfl rfl rfl) ?_
  refine aSims_c (i := 48) (s_aload_n hC dX1_step_99 rfl rfl) ?_
  refine aSims_c (i := 49) (s_aload_n hC dX1_step_100 rfl rfl) ?_
  refine aSims_c (i := 50) (s_get hC dX1_step_101 rfl rfl w_156 rfl rfl inB1 (by decide)) ?_
  refine aSims_c (i := 51) (s_callV (n := 1) hC dX1_step_104 rfl rfl (hE 25 _ _ _ _ rfl) (hF _ (by decide)) w_300 w_297 w_299 w_1 w_97 rfl (by decide +kernel)) ?_
  refine aSims_c (i := 52) (s_bipush hC dX1_step_107 rfl rfl rfl) ?_
  refine aSims_c (i := 53) (s_icmp_gt hC dX1_step_109 rfl rfl rfl) ?_
  refine aSims_c (i := 54) (s_aload_n hC dX1_step_112 rfl rfl) ?_
  refine aSims_c (i := 55) (s_bipush hC dX1_step_113 rfl rfl rfl) ?_
  refine aSims_c (i := 56) (s_bipush hC dX1_step_115 rfl rfl rfl) ?_
  refine aSims_c (i := 57) (s_callV (n := 2) hC dX1_step_117 rfl rfl (hE 24 _ _ _ _ rfl) (hF _ (by decide)) w_304 w_301 w_303 w_2 w_97 rfl (by decide +kernel)) ?_
  refine aSims_c (i := 58) (s_aload_n hC dX1_step_120 rfl rfl) ?_
  refine aSims_c (i := 59) (s_aload_n hC dX1_step_121 rfl rfl) ?_
  refine aSims_c (i := 60) (s_callV (n := 0) hC dX1_step_122 rfl rfl (hE 28 _ _ _ _ rfl) (hF _ (by decide)) w_308 w_305 w_307 w_3 w_97 rfl (by decide +kernel)) ?_
  refine aSims_c (i := 61) (s_put hC dX1_step_125 rfl rfl w_155 rfl rfl inB1 tyX1_ok nmX1 (by decide) rfl) ?_
  refine aSims_c (i := 62) (s_goto hC dX1_step_128 rfl rfl) ?_
  refine aSims_c (i := 63) (s_aload_n hC dX1_step_131 rfl rfl) ?_
  refine aSims_c (i := 64) (s_aload_n hC dX1_step_132 rfl rfl) ?_
  refine aSims_c (i := 65) (s_get hC dX1_step_133 rfl rfl w_156 rfl rfl inB1 (by decide)) ?_
  refine aSims_c (i := 66) (s_callV (n := 1) hC dX1_step_136 rfl rfl (hE 25 _ _ _ _ rfl) (hF _ (by decide)) w_300 w_297 w_299 w_1 w_97 rfl (by decide +kernel)) ?_
  refine aSims_c (i := 67) (s_bipush hC dX1_step_139 rfl rfl rfl) ?_
  refine aSims_c (i := 68) (s_icmp_lt hC dX1_step_141 rfl rfl rfl) ?_
  refine aSims_c (i := 69) (s_aload_n hC dX1_step_144 rfl rfl) ?_
  refine aSims_c (i := 70) (s_aload_n hC dX1_step_145 rfl rfl) ?_
  refine aSims_c (i := 71) (s_get hC dX1_step_146 rfl rfl w_156 rfl rfl inB1 (by decide)) ?_
  refine aSims_c (i := 72) (s_callV (n := 1) hC dX1_step_149 rfl rfl (hE 25 _ _ _ _ rfl) (hF _ (by decide)) w_300 w_297 w_299 w_1 w_97 rfl (by decide +kernel)) ?_
  refine aSims_c (i := 73) (s_bipush hC dX1_step_152 rfl rfl rfl) ?_
  refine aSims_c (i := 74) (s_icmp_gt hC dX1_step_154 rfl rfl rfl) ?_
  refine aSims_c (i := 75) (s_aload_n hC dX1_step_157 rfl rfl) ?_
  refine aSims_c (i := 76) (s_bipush hC dX1_step_158 rfl rfl rfl) ?_
  refine aSims_c (i := 77) (s_bipush hC dX1_step_160 rfl rfl rfl) ?_
  refine aSims_c (i := 78) (s_callV (n := 2) hC dX1_step_162 rfl rfl (hE 24 _ _ _ _ rfl) (hF _ (by decide)) w_304 w_301 w_303 w_2 w_97 rfl (by decide +kernel)) ?_
  refine aSims_c (i := 79) (s_aload_n hC dX1_step_165 rfl rfl) ?_
  refine aSims_c (i := 80) (s_aload_n hC dX1_step_166 rfl rfl) ?_
  refine aSims_c (i := 81) (s_callV (n := 0) hC dX1_step_167 rfl rfl (hE 27 _ _ _ _ rfl) (hF _ (by decide)) w_330 w_327 w_329 w_5 w_97 rfl (by decide +kernel)) ?_
  refine aSims_c (i := 82) (s_put hC dX1_step_170 rfl rfl w_155 rfl rfl inB1 tyX1_ok nmX1 (by decide) rfl) ?_
  refine aSims_c (i := 83) (s_goto hC dX1_step_173 rfl rfl) ?_
  refine aSims_c (i := 84) (s_aload_n hC dX1_step_176 rfl rfl) ?_
  refine aSims_c (i := 85) (s_aload_n hC dX1_step_177 rfl rfl) ?_
  refine aSims_c (i := 86) (s_get hC dX1_step_178 rfl rfl w_156 rfl rfl inB1 (by decide)) ?_
  refine aSims_c (i := 87) (s_iconst hC dX1_step_181 rfl rfl rfl) ?_
  refine aSims_c (i := 88) (s_iadd hC dX1_step_182 rfl rfl) ?_
  refine aSims_c (i := 89) (s_put hC dX1_step_183 rfl rfl w_157 rfl rfl inB1 tyX1_ok nmX1 (by decide) rfl) ?_
  refine aSims_c (i := 90) (s_aload_n hC dX1_step_186 rfl rfl) ?_
  refine aSims_c (i := 91) (s_aload_n hC dX1_step_187 rfl rfl) ?_
  refine aSims_c (i := 92) (s_callV (n := 0) hC dX1_step_188 rfl rfl (hE 26 _ _ _ _ rfl) (hF _ (by decide)) w_334 w_331 w_333 w_6 w_97 rfl (by decide +kernel)) ?_
  refine aSims_c (i := 93) (s_put hC dX1_step_191 rfl rfl w_155 rfl rfl inB1 tyX1_ok nmX1 (by decide) rfl) ?_
  refine aSims_c (i := 94) (s_vret hC dX1_step_194 rfl hr hlk) ?_
  exact aSims_n
set_option maxHeartbeats 4000000 in
set_option maxRecDepth 20000 in
theorem sm_X1_skip (hC : aC p s m args c cX1_skip 4 RX1 D cA ad bs n0 H0 X) (hF : ∀ ml, ml ≤ 41 → aFit R d ml) (hRm : 16 ≤ R.frames ∧ 1000 ≤ R.locals) (hE : aCalls l D cA ad bs X d E) (hr : meth.sig.returnType = none) (hlk : meth.locks = false) : aSims (fun f i => aSim p l e R s m args below meth c (aEnd below s args D cA ad bs n0 z0 rv hf) 4 D cA ad bs n0 z0 H0 (apc pc_X1_skip) rv hf E f i) (cd_X1_skip) 0 := by
  unfold cd_X1_skip
  refine aSims_c (i := 0) (s_iconst hC dX1_skip_0 rfl rfl rfl) ?_
  refine aSims_c (i := 1) (s_istore_n hC dX1_skip_1 rfl rfl) ?_
  refine aSims_c (i := 2) (s_iload_n hC dX1_skip_2 rfl rfl) ?_
  refine aSims_c (i := 3) (s_sipush hC dX1_skip_3 rfl rfl rfl) ?_
  refine aSims_c (i := 4) (s_icmp_ge hC dX1_skip_6 rfl rfl rfl) ?_
  refine aSims_c (i := 5) (s_aload_n hC dX1_skip_9 rfl rfl) ?_
  refine aSims_c (i := 6) (s_aload_n hC dX1_skip_10 rfl rfl) ?_
  refine aSims_c (i := 7) (s_get hC dX1_skip_11 rfl rfl w_157 rfl rfl inB1 (by decide)) ?_
  refine aSims_c (i := 8) (s_callV (n := 1) hC dX1_skip_14 rfl rfl (hE 25 _ _ _ _ rfl) (hF _ (by decide)) w_300 w_297 w_299 w_1 w_97 rfl (by decide +kernel)) ?_
  refine aSims_c (i := 9) (s_iload_n hC dX1_skip_17 rfl rfl) ?_
  refine aSims_c (i := 10) (s_icmp_lt hC dX1_skip_18 rfl rfl rfl) ?_
  refine aSims_c (i := 11) (s_aload_n hC dX1_skip_21 rfl rfl) ?_
  refine aSims_c (i := 12) (s_aload_n hC dX1_skip_22 rfl rfl) ?_
  refine aSims_c (i := 13) (s_get hC dX1_skip_23 rfl rfl w_157 rfl rfl inB1 (by decide)) ?_
  refine aSims_c (i := 14) (s_callV (n := 1) hC dX1_skip_26 rfl rfl (hE 25 _ _ _ _ rfl) (hF _ (by decide)) w_300 w_297 w_299 w_1 w_97 rfl (by decide +kernel)) ?_
  refine aSims_c (i := 15) (s_iload_n hC dX1_skip_29 rfl rfl) ?_
  refine aSims_c (i := 16) (s_icmp_gt hC dX1_skip_30 rfl rfl rfl) ?_
  refine aSims_c (i := 17) (s_aload_n hC dX1_skip_33 rfl rfl) ?_
  refine aSims_c (i := 18) (s_dup hC dX1_skip_34 rfl rfl) ?_
  refine aSims_c (i := 19) (s_get hC dX1_skip_35 rfl rfl w_157 rfl rfl inB1 (by decide)) ?_
  refine aSims_c (i := 20) (s_iconst hC dX1_skip_38 rfl rfl rfl) ?_
  refine aSims_c (i := 21) (s_iadd hC dX1_skip_39 rfl rfl) ?_
  refine aSims_c (i := 22) (s_put hC dX1_skip_40 rfl rfl w_157 rfl rfl inB1 tyX1_ok nmX1 (by decide) rfl) ?_
  refine aSims_c (i := 23) (s_iinc hC dX1_skip_43 rfl rfl) ?_
  refine aSims_c (i := 24) (s_goto hC dX1_skip_46 rfl rfl) ?_
  refine aSims_c (i := 25) (s_vret hC dX1_skip_49 rfl hr hlk) ?_
  exact aSims_n
set_option maxHeartbeats 4000000 in
set_option maxRecDepth 20000 in
theorem sm_X1_byteAt (hC : aC p s m args c cX1_byteAt 2 RX1 D cA ad bs n0 H0 X) (hF : ∀ ml, ml ≤ 41 → aFit R d ml) (hRm : 16 ≤ R.frames ∧ 1000 ≤ R.locals) (hE : aCalls l D cA ad bs X d E) (hr : meth.sig.returnType = (some .int)) (hlk : meth.locks = false) : aSims (fun f i => aSim p l e R s m args below meth c (aEnd below s args D cA ad bs n0 z0 rv hf) 2 D cA ad bs n0 z0 H0 (apc pc_X1_byteAt) rv hf E f i) (cd_X1_byteAt) 0 := by
  unfold cd_X1_byteAt
  refine aSims_c (i := 0) (s_iload_n hC dX1_byteAt_0 rfl rfl) ?_
  refine aSims_c (i := 1) (s_if_lt hC dX1_byteAt_1 rfl rfl rfl) ?_
  refine aSims_c (i := 2) (s_iload_n hC dX1_byteAt_4 rfl rfl) ?_
  refine aSims_c (i := 3) (s_aload_n hC dX1_byteAt_5 rfl rfl) ?_
  refine aSims_c (i := 4) (s_get hC dX1_byteAt_6 rfl rfl w_151 rfl rfl inB1 (by decide)) ?_
  refine aSims_c (i := 5) (s_icmp_ge hC dX1_byteAt_9 rfl rfl rfl) ?_
  refine aSims_c (i := 6) (s_iload_n hC dX1_byteAt_12 rfl rfl) ?_
  refine aSims_c (i := 7) (s_sipush hC dX1_byteAt_13 rfl rfl rfl) ?_
  refine aSims_c (i := 8) (s_icmp_ge hC dX1_byteAt_16 rfl rfl rfl) ?_
  refine aSims_c (i := 9) (s_aload_n hC dX1_byteAt_19 rfl rfl) ?_
  refine aSims_c (i := 10) (s_get hC dX1_byteAt_20 rfl rfl w_153 rfl rfl inB1 (by decide)) ?_
  refine aSims_c (i := 11) (s_iload_n hC dX1_byteAt_23 rfl rfl) ?_
  refine aSims_c (i := 12) (s_iaload hC hX0 dX1_byteAt_24 rfl rfl) ?_
  refine aSims_c (i := 13) (s_goto hC dX1_byteAt_25 rfl rfl) ?_
  refine aSims_c (i := 14) (s_iconst hC dX1_byteAt_28 rfl rfl rfl) ?_
  refine aSims_c (i := 15) (s_iret hC dX1_byteAt_29 rfl hr hlk nar_qI) ?_
  exact aSims_n
set_option maxHeartbeats 4000000 in
set_option maxRecDepth 20000 in
theorem sm_X1_signAt (hC : aC p s m args c cX1_signAt 2 RX1 D cA ad bs n0 H0 X) (hF : ∀ ml, ml ≤ 41 → aFit R d ml) (hRm : 16 ≤ R.frames ∧ 1000 ≤ R.locals) (hE : aCalls l D cA ad bs X d E) (hr : meth.sig.returnType = (some .int)) (hlk : meth.locks = false) : aSims (fun f i => aSim p l e R s m args below meth c (aEnd below s args D cA ad bs n0 z0 rv hf) 2 D cA ad bs n0 z0 H0 (apc pc_X1_signAt) rv hf E f i) (cd_X1_signAt) 0 := by
  unfold cd_X1_signAt
  refine aSims_c (i := 0) (s_aload_n hC dX1_signAt_0 rfl rfl) ?_
  refine aSims_c (i := 1) (s_aload_n hC dX1_signAt_1 rfl rfl) ?_
  refine aSims_c (i := 2) (s_get hC dX1_signAt_2 rfl rfl w_156 rfl rfl inB1 (by decide)) ?_
  refine aSims_c (i := 3) (s_callV (n := 1) hC dX1_signAt_5 rfl rfl (hE 25 _ _ _ _ rfl) (hF _ (by decide)) w_300 w_297 w_299 w_1 w_97 rfl (by decide +kernel)) ?_
  refine aSims_c (i := 4) (s_istore_n hC dX1_signAt_8 rfl rfl) ?_
  refine aSims_c (i := 5) (s_iload_n hC dX1_signAt_9 rfl rfl) ?_
  refine aSims_c (i := 6) (s_switch hC dX1_signAt_10 rfl rfl rfl rfl (aSw_in (by decide +kernel)) (fun j hj => anth_none hj)) ?_
  refine aSims_c (i := 7) (s_iload_n hC dX1_signAt_112 rfl rfl) ?_
  refine aSims_c (i := 8) (s_iret hC dX1_signAt_113 rfl hr hlk nar_qI) ?_
  refine aSims_c (i := 9) (s_iconst hC dX1_signAt_114 rfl rfl rfl) ?_
  refine aSims_c (i := 10) (s_iret hC dX1_signAt_115 rfl hr hlk nar_qI) ?_
  exact aSims_n
set_option maxHeartbeats 4000000 in
set_option maxRecDepth 20000 in
theorem sm_X1_numberAt (hC : aC p s m args c cX1_numberAt 2 RX1 D cA ad bs n0 H0 X) (hF : ∀ ml, ml ≤ 41 → aFit R d ml) (hRm : 16 ≤ R.frames ∧ 1000 ≤ R.locals) (hE : aCalls l D cA ad bs X d E) (hr : meth.sig.returnType = (some .int)) (hlk : meth.locks = false) : aSims (fun f i => aSim p l e R s m args below meth c (aEnd below s args D cA ad bs n0 z0 rv hf) 2 D cA ad bs n0 z0 H0 (apc pc_X1_numberAt) rv hf E f i) (cd_X1_numberAt) 0 := by
  unfold cd_X1_numberAt
  refine aSims_c (i := 0) (s_aload_n hC dX1_numberAt_0 rfl rfl) ?_
  refine aSims_c (i := 1) (s_get hC dX1_numberAt_1 rfl rfl w_157 rfl rfl inB1 (by decide)) ?_
  refine aSims_c (i := 2) (s_aload_n hC dX1_numberAt_4 rfl rfl) ?_
  refine aSims_c (i := 3) (s_get hC dX1_numberAt_5 rfl rfl w_156 rfl rfl inB1 (by decide)) ?_
  refine aSims_c (i := 4) (s_isub hC dX1_numberAt_8 rfl rfl) ?_
  refine aSims_c (i := 5) (s_iconst hC dX1_numberAt_9 rfl rfl rfl) ?_
  refine aSims_c (i := 6) (s_icmp_le hC dX1_numberAt_10 rfl rfl rfl) ?_
  refine aSims_c (i := 7) (s_iconst hC dX1_numberAt_13 rfl rfl rfl) ?_
  refine aSims_c (i := 8) (s_iret hC dX1_numberAt_14 rfl hr hlk nar_qI) ?_
  refine aSims_c (i := 9) (s_aload_n hC dX1_numberAt_15 rfl rfl) ?_
  refine aSims_c (i := 10) (s_iconst hC dX1_numberAt_16 rfl rfl rfl) ?_
  refine aSims_c (i := 11) (s_put hC dX1_numberAt_17 rfl rfl w_158 rfl rfl inB1 tyX1_ok nmX1 (by decide) rfl) ?_
  refine aSims_c (i := 12) (s_aload_n hC dX1_numberAt_20 rfl rfl) ?_
  refine aSims_c (i := 13) (s_get hC dX1_numberAt_21 rfl rfl w_156 rfl rfl inB1 (by decide)) ?_
  refine aSims_c (i := 14) (s_istore_n hC dX1_numberAt_24 rfl rfl) ?_
  refine aSims_c (i := 15) (s_iload_n hC dX1_numberAt_25 rfl rfl) ?_
  refine aSims_c (i := 16) (s_aload_n hC dX1_numberAt_26 rfl rfl) ?_
  refine aSims_c (i := 17) (s_get hC dX1_numberAt_27 rfl rfl w_157 rfl rfl inB1 (by decide)) ?_
  refine aSims_c (i := 18) (s_icmp_ge hC dX1_numberAt_30 rfl rfl rfl) ?_
  refine aSims_c (i := 19) (s_aload_n hC dX1_numberAt_33 rfl rfl) ?_
  refine aSims_c (i := 20) (s_bipush hC dX1_numberAt_34 rfl rfl rfl) ?_
  refine aSims_c (i := 21) (s_aload_n hC dX1_numberAt_36 rfl rfl) ?_
  refine aSims_c (i := 22) (s_get hC dX1_numberAt_37 rfl rfl w_158 rfl rfl inB1 (by decide)) ?_
  refine aSims_c (i := 23) (s_imul hC dX1_numberAt_40 rfl rfl) ?_
  refine aSims_c (i := 24) (s_aload_n hC dX1_numberAt_41 rfl rfl) ?_
  refine aSims_c (i := 25) (s_iload_n hC dX1_numberAt_42 rfl rfl) ?_
  refine aSims_c (i := 26) (s_callV (n := 1) hC dX1_numberAt_43 rfl rfl (hE 25 _ _ _ _ rfl) (hF _ (by decide)) w_300 w_297 w_299 w_1 w_97 rfl (by decide +kernel)) ?_
  refine aSims_c (i := 27) (s_iadd hC dX1_numberAt_46 rfl rfl) ?_
  refine aSims_c (i := 28) (s_bipush hC dX1_numberAt_47 rfl rfl rfl) ?_
  refine aSims_c (i := 29) (s_isub hC dX1_numberAt_49 rfl rfl) ?_
  refine aSims_c (i := 30) (s_put hC dX1_numberAt_50 rfl rfl w_158 rfl rfl inB1 tyX1_ok nmX1 (by decide) rfl) ?_
  refine aSims_c (i := 31) (s_iinc hC dX1_numberAt_53 rfl rfl) ?_
  refine aSims_c (i := 32) (s_goto hC dX1_numberAt_56 rfl rfl) ?_
  refine aSims_c (i := 33) (s_iconst hC dX1_numberAt_59 rfl rfl rfl) ?_
  refine aSims_c (i := 34) (s_iret hC dX1_numberAt_60 rfl hr hlk nar_qI) ?_
  exact aSims_n
end SIM
