/-! each method's instructions are simulated (written by wip/whole/gen.py) -/
theorem dX5_forgets_0 : decode cX5_forgets 0 = .ok (.aload_n 0, 1) := by decide +kernel
theorem dX5_forgets_1 : decode cX5_forgets 1 = .ok (.aload_n 1, 1) := by decide +kernel
theorem dX5_forgets_2 : decode cX5_forgets 2 = .ok (.iload_n 2, 1) := by decide +kernel
theorem dX5_forgets_3 : decode cX5_forgets 3 = .ok (.iconst 0, 1) := by decide +kernel
theorem dX5_forgets_4 : decode cX5_forgets 4 = .ok (.invokevirtual 51, 3) := by decide +kernel
theorem dX5_forgets_7 : decode cX5_forgets 7 = .ok (.aload_n 0, 1) := by decide +kernel
theorem dX5_forgets_8 : decode cX5_forgets 8 = .ok (.getfield 20, 3) := by decide +kernel
theorem dX5_forgets_11 : decode cX5_forgets 11 = .ok (.iconst 1, 1) := by decide +kernel
theorem dX5_forgets_12 : decode cX5_forgets 12 = .ok (.aload_n 0, 1) := by decide +kernel
theorem dX5_forgets_13 : decode cX5_forgets 13 = .ok (.getfield 17, 3) := by decide +kernel
theorem dX5_forgets_16 : decode cX5_forgets 16 = .ok (.invokevirtual 55, 3) := by decide +kernel
theorem dX5_forgets_19 : decode cX5_forgets 19 = .ok (.iconst 0, 1) := by decide +kernel
theorem dX5_forgets_20 : decode cX5_forgets 20 = .ok (.bipush 99, 2) := by decide +kernel
theorem dX5_forgets_22 : decode cX5_forgets 22 = .ok (.invokestatic 59, 3) := by decide +kernel
theorem dX5_forgets_25 : decode cX5_forgets 25 = .ok (.istore_n 3, 1) := by decide +kernel
theorem dX5_forgets_26 : decode cX5_forgets 26 = .ok (.aload_n 1, 1) := by decide +kernel
theorem dX5_forgets_27 : decode cX5_forgets 27 = .ok (.iload_n 3, 1) := by decide +kernel
theorem dX5_forgets_28 : decode cX5_forgets 28 = .ok (.invokevirtual 67, 3) := by decide +kernel
theorem dX5_forgets_31 : decode cX5_forgets 31 = .ok (.iconst 0, 1) := by decide +kernel
theorem dX5_forgets_32 : decode cX5_forgets 32 = .ok (.bipush 99, 2) := by decide +kernel
theorem dX5_forgets_34 : decode cX5_forgets 34 = .ok (.invokestatic 59, 3) := by decide +kernel
theorem dX5_forgets_37 : decode cX5_forgets 37 = .ok (.ireturn, 1) := by decide +kernel
theorem dX5_nerve_0 : decode cX5_nerve 0 = .ok (.aload_n 0, 1) := by decide +kernel
theorem dX5_nerve_1 : decode cX5_nerve 1 = .ok (.aload_n 1, 1) := by decide +kernel
theorem dX5_nerve_2 : decode cX5_nerve 2 = .ok (.iload_n 2, 1) := by decide +kernel
theorem dX5_nerve_3 : decode cX5_nerve 3 = .ok (.iconst 0, 1) := by decide +kernel
theorem dX5_nerve_4 : decode cX5_nerve 4 = .ok (.invokevirtual 51, 3) := by decide +kernel
theorem dX5_nerve_7 : decode cX5_nerve 7 = .ok (.aload_n 1, 1) := by decide +kernel
theorem dX5_nerve_8 : decode cX5_nerve 8 = .ok (.aload_n 0, 1) := by decide +kernel
theorem dX5_nerve_9 : decode cX5_nerve 9 = .ok (.getfield 20, 3) := by decide +kernel
theorem dX5_nerve_12 : decode cX5_nerve 12 = .ok (.iconst 2, 1) := by decide +kernel
theorem dX5_nerve_13 : decode cX5_nerve 13 = .ok (.aload_n 0, 1) := by decide +kernel
theorem dX5_nerve_14 : decode cX5_nerve 14 = .ok (.getfield 17, 3) := by decide +kernel
theorem dX5_nerve_17 : decode cX5_nerve 17 = .ok (.invokevirtual 55, 3) := by decide +kernel
theorem dX5_nerve_20 : decode cX5_nerve 20 = .ok (.bipush (-99), 2) := by decide +kernel
theorem dX5_nerve_22 : decode cX5_nerve 22 = .ok (.bipush 99, 2) := by decide +kernel
theorem dX5_nerve_24 : decode cX5_nerve 24 = .ok (.invokestatic 59, 3) := by decide +kernel
theorem dX5_nerve_27 : decode cX5_nerve 27 = .ok (.invokevirtual 71, 3) := by decide +kernel
theorem dX5_nerve_30 : decode cX5_nerve 30 = .ok (.ireturn, 1) := by decide +kernel
theorem dX5_margin_0 : decode cX5_margin 0 = .ok (.aload_n 1, 1) := by decide +kernel
theorem dX5_margin_1 : decode cX5_margin 1 = .ok (.getfield 40, 3) := by decide +kernel
theorem dX5_margin_4 : decode cX5_margin 4 = .ok (.iload_n 2, 1) := by decide +kernel
theorem dX5_margin_5 : decode cX5_margin 5 = .ok (.iaload, 1) := by decide +kernel
theorem dX5_margin_6 : decode cX5_margin 6 = .ok (.aload_n 0, 1) := by decide +kernel
theorem dX5_margin_7 : decode cX5_margin 7 = .ok (.aload_n 1, 1) := by decide +kernel
theorem dX5_margin_8 : decode cX5_margin 8 = .ok (.iload_n 2, 1) := by decide +kernel
theorem dX5_margin_9 : decode cX5_margin 9 = .ok (.invokevirtual 74, 3) := by decide +kernel
theorem dX5_margin_12 : decode cX5_margin 12 = .ok (.iadd, 1) := by decide +kernel
theorem dX5_margin_13 : decode cX5_margin 13 = .ok (.aload_n 0, 1) := by decide +kernel
theorem dX5_margin_14 : decode cX5_margin 14 = .ok (.getfield 9, 3) := by decide +kernel
theorem dX5_margin_17 : decode cX5_margin 17 = .ok (.iload_n 2, 1) := by decide +kernel
theorem dX5_margin_18 : decode cX5_margin 18 = .ok (.iaload, 1) := by decide +kernel
theorem dX5_margin_19 : decode cX5_margin 19 = .ok (.isub, 1) := by decide +kernel
theorem dX5_margin_20 : decode cX5_margin 20 = .ok (.ireturn, 1) := by decide +kernel
theorem dX5_managedBy_0 : decode cX5_managedBy 0 = .ok (.iconst 0, 1) := by decide +kernel
theorem dX5_managedBy_1 : decode cX5_managedBy 1 = .ok (.istore_n 2, 1) := by decide +kernel
theorem dX5_managedBy_2 : decode cX5_managedBy 2 = .ok (.iconst 0, 1) := by decide +kernel
theorem dX5_managedBy_3 : decode cX5_managedBy 3 = .ok (.istore_n 3, 1) := by decide +kernel
theorem dX5_managedBy_4 : decode cX5_managedBy 4 = .ok (.iload_n 3, 1) := by decide +kernel
theorem dX5_managedBy_5 : decode cX5_managedBy 5 = .ok (.bipush 8, 2) := by decide +kernel
theorem dX5_managedBy_7 : decode cX5_managedBy 7 = .ok (.if_icmp .ge 21, 3) := by decide +kernel
theorem dX5_managedBy_10 : decode cX5_managedBy 10 = .ok (.aload_n 0, 1) := by decide +kernel
theorem dX5_managedBy_11 : decode cX5_managedBy 11 = .ok (.aload_n 1, 1) := by decide +kernel
theorem dX5_managedBy_12 : decode cX5_managedBy 12 = .ok (.iload_n 3, 1) := by decide +kernel
theorem dX5_managedBy_13 : decode cX5_managedBy 13 = .ok (.invokevirtual 78, 3) := by decide +kernel
theorem dX5_managedBy_16 : decode cX5_managedBy 16 = .ok (.ifCond .lt 6, 3) := by decide +kernel
theorem dX5_managedBy_19 : decode cX5_managedBy 19 = .ok (.iinc 2 1, 3) := by decide +kernel
theorem dX5_managedBy_22 : decode cX5_managedBy 22 = .ok (.iinc 3 1, 3) := by decide +kernel
theorem dX5_managedBy_25 : decode cX5_managedBy 25 = .ok (.goto (-21), 3) := by decide +kernel
theorem dX5_managedBy_28 : decode cX5_managedBy 28 = .ok (.iload_n 2, 1) := by decide +kernel
theorem dX5_managedBy_29 : decode cX5_managedBy 29 = .ok (.ireturn, 1) := by decide +kernel
theorem dX5_isReady_0 : decode cX5_isReady 0 = .ok (.iconst 0, 1) := by decide +kernel
theorem dX5_isReady_1 : decode cX5_isReady 1 = .ok (.istore_n 2, 1) := by decide +kernel
theorem dX5_isReady_2 : decode cX5_isReady 2 = .ok (.iload_n 2, 1) := by decide +kernel
theorem dX5_isReady_3 : decode cX5_isReady 3 = .ok (.bipush 8, 2) := by decide +kernel
theorem dX5_isReady_5 : decode cX5_isReady 5 = .ok (.if_icmp .ge 20, 3) := by decide +kernel
theorem dX5_isReady_8 : decode cX5_isReady 8 = .ok (.aload_n 0, 1) := by decide +kernel
theorem dX5_isReady_9 : decode cX5_isReady 9 = .ok (.aload_n 1, 1) := by decide +kernel
theorem dX5_isReady_10 : decode cX5_isReady 10 = .ok (.iload_n 2, 1) := by decide +kernel
theorem dX5_isReady_11 : decode cX5_isReady 11 = .ok (.invokevirtual 78, 3) := by decide +kernel
theorem dX5_isReady_14 : decode cX5_isReady 14 = .ok (.ifCond .ge 5, 3) := by decide +kernel
theorem dX5_isReady_17 : decode cX5_isReady 17 = .ok (.iconst 0, 1) := by decide +kernel
theorem dX5_isReady_18 : decode cX5_isReady 18 = .ok (.ireturn, 1) := by decide +kernel
theorem dX5_isReady_19 : decode cX5_isReady 19 = .ok (.iinc 2 1, 3) := by decide +kernel
theorem dX5_isReady_22 : decode cX5_isReady 22 = .ok (.goto (-20), 3) := by decide +kernel
theorem dX5_isReady_25 : decode cX5_isReady 25 = .ok (.iconst 1, 1) := by decide +kernel
theorem dX5_isReady_26 : decode cX5_isReady 26 = .ok (.ireturn, 1) := by decide +kernel
theorem dX5_leastManaged_0 : decode cX5_leastManaged 0 = .ok (.iconst 0, 1) := by decide +kernel
theorem dX5_leastManaged_1 : decode cX5_leastManaged 1 = .ok (.istore_n 2, 1) := by decide +kernel
theorem dX5_leastManaged_2 : decode cX5_leastManaged 2 = .ok (.aload_n 0, 1) := by decide +kernel
theorem dX5_leastManaged_3 : decode cX5_leastManaged 3 = .ok (.aload_n 1, 1) := by decide +kernel
theorem dX5_leastManaged_4 : decode cX5_leastManaged 4 = .ok (.iconst 0, 1) := by decide +kernel
theorem dX5_leastManaged_5 : decode cX5_leastManaged 5 = .ok (.invokevirtual 78, 3) := by decide +kernel
theorem dX5_leastManaged_8 : decode cX5_leastManaged 8 = .ok (.istore_n 3, 1) := by decide +kernel
theorem dX5_leastManaged_9 : decode cX5_leastManaged 9 = .ok (.iconst 1, 1) := by decide +kernel
theorem dX5_leastManaged_10 : decode cX5_leastManaged 10 = .ok (.istore 4, 2) := by decide +kernel
theorem dX5_leastManaged_12 : decode cX5_leastManaged 12 = .ok (.iload 4, 2) := by decide +kernel
theorem dX5_leastManaged_14 : decode cX5_leastManaged 14 = .ok (.bipush 8, 2) := by decide +kernel
theorem dX5_leastManaged_16 : decode cX5_leastManaged 16 = .ok (.if_icmp .ge 30, 3) := by decide +kernel
theorem dX5_leastManaged_19 : decode cX5_leastManaged 19 = .ok (.aload_n 0, 1) := by decide +kernel
theorem dX5_leastManaged_20 : decode cX5_leastManaged 20 = .ok (.aload_n 1, 1) := by decide +kernel
theorem dX5_leastManaged_21 : decode cX5_leastManaged 21 = .ok (.iload 4, 2) := by decide +kernel
theorem dX5_leastManaged_23 : decode cX5_leastManaged 23 = .ok (.invokevirtual 78, 3) := by decide +kernel
theorem dX5_leastManaged_26 : decode cX5_leastManaged 26 = .ok (.istore 5, 2) := by decide +kernel
theorem dX5_leastManaged_28 : decode cX5_leastManaged 28 = .ok (.iload 5, 2) := by decide +kernel
theorem dX5_leastManaged_30 : decode cX5_leastManaged 30 = .ok (.iload_n 3, 1) := by decide +kernel
theorem dX5_leastManaged_31 : decode cX5_leastManaged 31 = .ok (.if_icmp .ge 9, 3) := by decide +kernel
theorem dX5_leastManaged_34 : decode cX5_leastManaged 34 = .ok (.iload 4, 2) := by decide +kernel
theorem dX5_leastManaged_36 : decode cX5_leastManaged 36 = .ok (.istore_n 2, 1) := by decide +kernel
theorem dX5_leastManaged_37 : decode cX5_leastManaged 37 = .ok (.iload 5, 2) := by decide +kernel
theorem dX5_leastManaged_39 : decode cX5_leastManaged 39 = .ok (.istore_n 3, 1) := by decide +kernel
theorem dX5_leastManaged_40 : decode cX5_leastManaged 40 = .ok (.iinc 4 1, 3) := by decide +kernel
theorem dX5_leastManaged_43 : decode cX5_leastManaged 43 = .ok (.goto (-31), 3) := by decide +kernel
theorem dX5_leastManaged_46 : decode cX5_leastManaged 46 = .ok (.iload_n 2, 1) := by decide +kernel
theorem dX5_leastManaged_47 : decode cX5_leastManaged 47 = .ok (.ireturn, 1) := by decide +kernel
theorem dX5_spendHour_0 : decode cX5_spendHour 0 = .ok (.aload_n 0, 1) := by decide +kernel
theorem dX5_spendHour_1 : decode cX5_spendHour 1 = .ok (.aload_n 1, 1) := by decide +kernel
theorem dX5_spendHour_2 : decode cX5_spendHour 2 = .ok (.iload_n 2, 1) := by decide +kernel
theorem dX5_spendHour_3 : decode cX5_spendHour 3 = .ok (.iload_n 3, 1) := by decide +kernel
theorem dX5_spendHour_4 : decode cX5_spendHour 4 = .ok (.invokevirtual 81, 3) := by decide +kernel
theorem dX5_spendHour_7 : decode cX5_spendHour 7 = .ok (.istore 4, 2) := by decide +kernel
theorem dX5_spendHour_9 : decode cX5_spendHour 9 = .ok (.iload_n 3, 1) := by decide +kernel
theorem dX5_spendHour_10 : decode cX5_spendHour 10 = .ok (.iconst 2, 1) := by decide +kernel
theorem dX5_spendHour_11 : decode cX5_spendHour 11 = .ok (.if_icmp .eq 34, 3) := by decide +kernel
theorem dX5_spendHour_14 : decode cX5_spendHour 14 = .ok (.aload_n 0, 1) := by decide +kernel
theorem dX5_spendHour_15 : decode cX5_spendHour 15 = .ok (.aload_n 1, 1) := by decide +kernel
theorem dX5_spendHour_16 : decode cX5_spendHour 16 = .ok (.iload_n 2, 1) := by decide +kernel
theorem dX5_spendHour_17 : decode cX5_spendHour 17 = .ok (.invokevirtual 78, 3) := by decide +kernel
theorem dX5_spendHour_20 : decode cX5_spendHour 20 = .ok (.ifCond .ge 25, 3) := by decide +kernel
theorem dX5_spendHour_23 : decode cX5_spendHour 23 = .ok (.aload_n 1, 1) := by decide +kernel
theorem dX5_spendHour_24 : decode cX5_spendHour 24 = .ok (.sipush 999, 3) := by decide +kernel
theorem dX5_spendHour_27 : decode cX5_spendHour 27 = .ok (.aload_n 1, 1) := by decide +kernel
theorem dX5_spendHour_28 : decode cX5_spendHour 28 = .ok (.getfield 85, 3) := by decide +kernel
theorem dX5_spendHour_31 : decode cX5_spendHour 31 = .ok (.iconst 1, 1) := by decide +kernel
theorem dX5_spendHour_32 : decode cX5_spendHour 32 = .ok (.iadd, 1) := by decide +kernel
theorem dX5_spendHour_33 : decode cX5_spendHour 33 = .ok (.invokestatic 88, 3) := by decide +kernel
theorem dX5_spendHour_36 : decode cX5_spendHour 36 = .ok (.putfield 85, 3) := by decide +kernel
theorem dX5_spendHour_39 : decode cX5_spendHour 39 = .ok (.iload 4, 2) := by decide +kernel
theorem dX5_spendHour_41 : decode cX5_spendHour 41 = .ok (.iconst 2, 1) := by decide +kernel
theorem dX5_spendHour_42 : decode cX5_spendHour 42 = .ok (.idiv, 1) := by decide +kernel
theorem dX5_spendHour_43 : decode cX5_spendHour 43 = .ok (.istore 4, 2) := by decide +kernel
theorem dX5_spendHour_45 : decode cX5_spendHour 45 = .ok (.aload_n 1, 1) := by decide +kernel
theorem dX5_spendHour_46 : decode cX5_spendHour 46 = .ok (.getfield 40, 3) := by decide +kernel
theorem dX5_spendHour_49 : decode cX5_spendHour 49 = .ok (.iload_n 2, 1) := by decide +kernel
theorem dX5_spendHour_50 : decode cX5_spendHour 50 = .ok (.bipush 99, 2) := by decide +kernel
theorem dX5_spendHour_52 : decode cX5_spendHour 52 = .ok (.aload_n 1, 1) := by decide +kernel
theorem dX5_spendHour_53 : decode cX5_spendHour 53 = .ok (.getfield 40, 3) := by decide +kernel
theorem dX5_spendHour_56 : decode cX5_spendHour 56 = .ok (.iload_n 2, 1) := by decide +kernel
theorem dX5_spendHour_57 : decode cX5_spendHour 57 = .ok (.iaload, 1) := by decide +kernel
theorem dX5_spendHour_58 : decode cX5_spendHour 58 = .ok (.iload 4, 2) := by decide +kernel
theorem dX5_spendHour_60 : decode cX5_spendHour 60 = .ok (.iadd, 1) := by decide +kernel
theorem dX5_spendHour_61 : decode cX5_spendHour 61 = .ok (.invokestatic 88, 3) := by decide +kernel
theorem dX5_spendHour_64 : decode cX5_spendHour 64 = .ok (.iastore, 1) := by decide +kernel
theorem dX5_spendHour_65 : decode cX5_spendHour 65 = .ok (.aload_n 1, 1) := by decide +kernel
theorem dX5_spendHour_66 : decode cX5_spendHour 66 = .ok (.bipush 99, 2) := by decide +kernel
theorem dX5_spendHour_68 : decode cX5_spendHour 68 = .ok (.aload_n 1, 1) := by decide +kernel
theorem dX5_spendHour_69 : decode cX5_spendHour 69 = .ok (.getfield 48, 3) := by decide +kernel
theorem dX5_spendHour_72 : decode cX5_spendHour 72 = .ok (.iconst 1, 1) := by decide +kernel
theorem dX5_spendHour_73 : decode cX5_spendHour 73 = .ok (.iadd, 1) := by decide +kernel
theorem dX5_spendHour_74 : decode cX5_spendHour 74 = .ok (.invokestatic 88, 3) := by decide +kernel
theorem dX5_spendHour_77 : decode cX5_spendHour 77 = .ok (.putfield 48, 3) := by decide +kernel
theorem dX5_spendHour_80 : decode cX5_spendHour 80 = .ok (.return_, 1) := by decide +kernel
theorem dX5_sleep_0 : decode cX5_sleep 0 = .ok (.iconst 0, 1) := by decide +kernel
theorem dX5_sleep_1 : decode cX5_sleep 1 = .ok (.istore_n 2, 1) := by decide +kernel
theorem dX5_sleep_2 : decode cX5_sleep 2 = .ok (.iload_n 2, 1) := by decide +kernel
theorem dX5_sleep_3 : decode cX5_sleep 3 = .ok (.bipush 8, 2) := by decide +kernel
theorem dX5_sleep_5 : decode cX5_sleep 5 = .ok (.if_icmp .ge 32, 3) := by decide +kernel
theorem dX5_sleep_8 : decode cX5_sleep 8 = .ok (.aload_n 1, 1) := by decide +kernel
theorem dX5_sleep_9 : decode cX5_sleep 9 = .ok (.getfield 40, 3) := by decide +kernel
theorem dX5_sleep_12 : decode cX5_sleep 12 = .ok (.iload_n 2, 1) := by decide +kernel
theorem dX5_sleep_13 : decode cX5_sleep 13 = .ok (.iconst 0, 1) := by decide +kernel
theorem dX5_sleep_14 : decode cX5_sleep 14 = .ok (.aload_n 1, 1) := by decide +kernel
theorem dX5_sleep_15 : decode cX5_sleep 15 = .ok (.getfield 40, 3) := by decide +kernel
theorem dX5_sleep_18 : decode cX5_sleep 18 = .ok (.iload_n 2, 1) := by decide +kernel
theorem dX5_sleep_19 : decode cX5_sleep 19 = .ok (.iaload, 1) := by decide +kernel
theorem dX5_sleep_20 : decode cX5_sleep 20 = .ok (.aload_n 0, 1) := by decide +kernel
theorem dX5_sleep_21 : decode cX5_sleep 21 = .ok (.aload_n 1, 1) := by decide +kernel
theorem dX5_sleep_22 : decode cX5_sleep 22 = .ok (.iload_n 2, 1) := by decide +kernel
theorem dX5_sleep_23 : decode cX5_sleep 23 = .ok (.invokevirtual 93, 3) := by decide +kernel
theorem dX5_sleep_26 : decode cX5_sleep 26 = .ok (.isub, 1) := by decide +kernel
theorem dX5_sleep_27 : decode cX5_sleep 27 = .ok (.invokestatic 96, 3) := by decide +kernel
theorem dX5_sleep_30 : decode cX5_sleep 30 = .ok (.iastore, 1) := by decide +kernel
theorem dX5_sleep_31 : decode cX5_sleep 31 = .ok (.iinc 2 1, 3) := by decide +kernel
theorem dX5_sleep_34 : decode cX5_sleep 34 = .ok (.goto (-32), 3) := by decide +kernel
theorem dX5_sleep_37 : decode cX5_sleep 37 = .ok (.aload_n 1, 1) := by decide +kernel
theorem dX5_sleep_38 : decode cX5_sleep 38 = .ok (.iconst 0, 1) := by decide +kernel
theorem dX5_sleep_39 : decode cX5_sleep 39 = .ok (.putfield 48, 3) := by decide +kernel
theorem dX5_sleep_42 : decode cX5_sleep 42 = .ok (.return_, 1) := by decide +kernel
theorem dX6_init_0 : decode cX6_init 0 = .ok (.aload_n 0, 1) := by decide +kernel
theorem dX6_init_1 : decode cX6_init 1 = .ok (.invokespecial 1, 3) := by decide +kernel
theorem dX6_init_4 : decode cX6_init 4 = .ok (.aload_n 0, 1) := by decide +kernel
theorem dX6_init_5 : decode cX6_init 5 = .ok (.bipush 6, 2) := by decide +kernel
theorem dX6_init_7 : decode cX6_init 7 = .ok (.anewarray 9, 3) := by decide +kernel
theorem dX6_init_10 : decode cX6_init 10 = .ok (.putfield 11, 3) := by decide +kernel
theorem dX6_init_13 : decode cX6_init 13 = .ok (.aload_n 0, 1) := by decide +kernel
theorem dX6_init_14 : decode cX6_init 14 = .ok (.new 15, 3) := by decide +kernel
theorem dX6_init_17 : decode cX6_init 17 = .ok (.dup, 1) := by decide +kernel
theorem dX6_init_18 : decode cX6_init 18 = .ok (.invokespecial 17, 3) := by decide +kernel
theorem dX6_init_21 : decode cX6_init 21 = .ok (.putfield 18, 3) := by decide +kernel
theorem dX6_init_24 : decode cX6_init 24 = .ok (.aload_n 0, 1) := by decide +kernel
theorem dX6_init_25 : decode cX6_init 25 = .ok (.iconst 5, 1) := by decide +kernel
theorem dX6_init_26 : decode cX6_init 26 = .ok (.anewarray 22, 3) := by decide +kernel
theorem dX6_init_29 : decode cX6_init 29 = .ok (.putfield 24, 3) := by decide +kernel
theorem dX6_init_32 : decode cX6_init 32 = .ok (.aload_n 0, 1) := by decide +kernel
theorem dX6_init_33 : decode cX6_init 33 = .ok (.iconst 5, 1) := by decide +kernel
theorem dX6_init_34 : decode cX6_init 34 = .ok (.anewarray 22, 3) := by decide +kernel
theorem dX6_init_37 : decode cX6_init 37 = .ok (.putfield 28, 3) := by decide +kernel
theorem dX6_init_40 : decode cX6_init 40 = .ok (.aload_n 0, 1) := by decide +kernel
theorem dX6_init_41 : decode cX6_init 41 = .ok (.iconst (-1), 1) := by decide +kernel
theorem dX6_init_42 : decode cX6_init 42 = .ok (.putfield 31, 3) := by decide +kernel
theorem dX6_init_45 : decode cX6_init 45 = .ok (.aload_n 0, 1) := by decide +kernel
theorem dX6_init_46 : decode cX6_init 46 = .ok (.iconst 4, 1) := by decide +kernel
theorem dX6_init_47 : decode cX6_init 47 = .ok (.anewarray 35, 3) := by decide +kernel
theorem dX6_init_50 : decode cX6_init 50 = .ok (.putfield 37, 3) := by decide +kernel
theorem dX6_init_53 : decode cX6_init 53 = .ok (.iconst 0, 1) := by decide +kernel
theorem dX6_init_54 : decode cX6_init 54 = .ok (.istore_n 1, 1) := by decide +kernel
theorem dX6_init_55 : decode cX6_init 55 = .ok (.iload_n 1, 1) := by decide +kernel
theorem dX6_init_56 : decode cX6_init 56 = .ok (.bipush 6, 2) := by decide +kernel
theorem dX6_init_58 : decode cX6_init 58 = .ok (.if_icmp .ge 23, 3) := by decide +kernel
theorem dX6_init_61 : decode cX6_init 61 = .ok (.aload_n 0, 1) := by decide +kernel
theorem dX6_init_62 : decode cX6_init 62 = .ok (.getfield 11, 3) := by decide +kernel
theorem dX6_init_65 : decode cX6_init 65 = .ok (.iload_n 1, 1) := by decide +kernel
theorem dX6_init_66 : decode cX6_init 66 = .ok (.new 9, 3) := by decide +kernel
theorem dX6_init_69 : decode cX6_init 69 = .ok (.dup, 1) := by decide +kernel
theorem dX6_init_70 : decode cX6_init 70 = .ok (.iload_n 1, 1) := by decide +kernel
theorem dX6_init_71 : decode cX6_init 71 = .ok (.invokespecial 41, 3) := by decide +kernel
theorem dX6_init_74 : decode cX6_init 74 = .ok (.aastore, 1) := by decide +kernel
theorem dX6_init_75 : decode cX6_init 75 = .ok (.iinc 1 1, 3) := by decide +kernel
theorem dX6_init_78 : decode cX6_init 78 = .ok (.goto (-23), 3) := by decide +kernel
theorem dX6_init_81 : decode cX6_init 81 = .ok (.iconst 0, 1) := by decide +kernel
theorem dX6_init_82 : decode cX6_init 82 = .ok (.istore_n 1, 1) := by decide +kernel
theorem dX6_init_83 : decode cX6_init 83 = .ok (.iload_n 1, 1) := by decide +kernel
theorem dX6_init_84 : decode cX6_init 84 = .ok (.iconst 5, 1) := by decide +kernel
theorem dX6_init_85 : decode cX6_init 85 = .ok (.if_icmp .ge 35, 3) := by decide +kernel
theorem dX6_init_88 : decode cX6_init 88 = .ok (.aload_n 0, 1) := by decide +kernel
theorem dX6_init_89 : decode cX6_init 89 = .ok (.getfield 24, 3) := by decide +kernel
theorem dX6_init_92 : decode cX6_init 92 = .ok (.iload_n 1, 1) := by decide +kernel
theorem dX6_init_93 : decode cX6_init 93 = .ok (.new 22, 3) := by decide +kernel
theorem dX6_init_96 : decode cX6_init 96 = .ok (.dup, 1) := by decide +kernel
theorem dX6_init_97 : decode cX6_init 97 = .ok (.invokespecial 44, 3) := by decide +kernel
theorem dX6_init_100 : decode cX6_init 100 = .ok (.aastore, 1) := by decide +kernel
theorem dX6_init_101 : decode cX6_init 101 = .ok (.aload_n 0, 1) := by decide +kernel
theorem dX6_init_102 : decode cX6_init 102 = .ok (.getfield 28, 3) := by decide +kernel
theorem dX6_init_105 : decode cX6_init 105 = .ok (.iload_n 1, 1) := by decide +kernel
theorem dX6_init_106 : decode cX6_init 106 = .ok (.new 22, 3) := by decide +kernel
theorem dX6_init_109 : decode cX6_init 109 = .ok (.dup, 1) := by decide +kernel
theorem dX6_init_110 : decode cX6_init 110 = .ok (.invokespecial 44, 3) := by decide +kernel
theorem dX6_init_113 : decode cX6_init 113 = .ok (.aastore, 1) := by decide +kernel
theorem dX6_init_114 : decode cX6_init 114 = .ok (.iinc 1 1, 3) := by decide +kernel
theorem dX6_init_117 : decode cX6_init 117 = .ok (.goto (-34), 3) := by decide +kernel
theorem dX6_init_120 : decode cX6_init 120 = .ok (.iconst 0, 1) := by decide +kernel
theorem dX6_init_121 : decode cX6_init 121 = .ok (.istore_n 1, 1) := by decide +kernel
theorem dX6_init_122 : decode cX6_init 122 = .ok (.iload_n 1, 1) := by decide +kernel
theorem dX6_init_123 : decode cX6_init 123 = .ok (.iconst 4, 1) := by decide +kernel
theorem dX6_init_124 : decode cX6_init 124 = .ok (.if_icmp .ge 22, 3) := by decide +kernel
theorem dX6_init_127 : decode cX6_init 127 = .ok (.aload_n 0, 1) := by decide +kernel
theorem dX6_init_128 : decode cX6_init 128 = .ok (.getfield 37, 3) := by decide +kernel
theorem dX6_init_131 : decode cX6_init 131 = .ok (.iload_n 1, 1) := by decide +kernel
theorem dX6_init_132 : decode cX6_init 132 = .ok (.new 35, 3) := by decide +kernel
theorem dX6_init_135 : decode cX6_init 135 = .ok (.dup, 1) := by decide +kernel
theorem dX6_init_136 : decode cX6_init 136 = .ok (.invokespecial 45, 3) := by decide +kernel
theorem dX6_init_139 : decode cX6_init 139 = .ok (.aastore, 1) := by decide +kernel
theorem dX6_init_140 : decode cX6_init 140 = .ok (.iinc 1 1, 3) := by decide +kernel
theorem dX6_init_143 : decode cX6_init 143 = .ok (.goto (-21), 3) := by decide +kernel
theorem dX6_init_146 : decode cX6_init 146 = .ok (.iconst 0, 1) := by decide +kernel
theorem dX6_init_147 : decode cX6_init 147 = .ok (.istore_n 1, 1) := by decide +kernel
theorem dX6_init_148 : decode cX6_init 148 = .ok (.iload_n 1, 1) := by decide +kernel
theorem dX6_init_149 : decode cX6_init 149 = .ok (.ldc 46, 2) := by decide +kernel
theorem dX6_init_151 : decode cX6_init 151 = .ok (.invokevirtual 48, 3) := by decide +kernel
theorem dX6_init_154 : decode cX6_init 154 = .ok (.if_icmp .ge 23, 3) := by decide +kernel
theorem dX6_init_157 : decode cX6_init 157 = .ok (.aload_n 0, 1) := by decide +kernel
theorem dX6_init_158 : decode cX6_init 158 = .ok (.getfield 18, 3) := by decide +kernel
theorem dX6_init_161 : decode cX6_init 161 = .ok (.ldc 46, 2) := by decide +kernel
theorem dX6_init_163 : decode cX6_init 163 = .ok (.iload_n 1, 1) := by decide +kernel
theorem dX6_init_164 : decode cX6_init 164 = .ok (.invokevirtual 54, 3) := by decide +kernel
theorem dX6_init_167 : decode cX6_init 167 = .ok (.invokevirtual 58, 3) := by decide +kernel
theorem dX6_init_170 : decode cX6_init 170 = .ok (.pop, 1) := by decide +kernel
theorem dX6_init_171 : decode cX6_init 171 = .ok (.iinc 1 1, 3) := by decide +kernel
theorem dX6_init_174 : decode cX6_init 174 = .ok (.goto (-26), 3) := by decide +kernel
theorem dX6_init_177 : decode cX6_init 177 = .ok (.aload_n 0, 1) := by decide +kernel
theorem dX6_init_178 : decode cX6_init 178 = .ok (.getfield 18, 3) := by decide +kernel
theorem dX6_init_181 : decode cX6_init 181 = .ok (.aload_n 0, 1) := by decide +kernel
theorem dX6_init_182 : decode cX6_init 182 = .ok (.getfield 11, 3) := by decide +kernel
theorem dX6_init_185 : decode cX6_init 185 = .ok (.iconst 0, 1) := by decide +kernel
theorem dX6_init_186 : decode cX6_init 186 = .ok (.aaload, 1) := by decide +kernel
theorem dX6_init_187 : decode cX6_init 187 = .ok (.invokevirtual 62, 3) := by decide +kernel
theorem dX6_init_190 : decode cX6_init 190 = .ok (.pop, 1) := by decide +kernel
theorem dX6_init_191 : decode cX6_init 191 = .ok (.aload_n 0, 1) := by decide +kernel
theorem dX6_init_192 : decode cX6_init 192 = .ok (.iconst 1, 1) := by decide +kernel
theorem dX6_init_193 : decode cX6_init 193 = .ok (.putfield 66, 3) := by decide +kernel
theorem dX6_init_196 : decode cX6_init 196 = .ok (.aload_n 0, 1) := by decide +kernel
theorem dX6_init_197 : decode cX6_init 197 = .ok (.new 69, 3) := by decide +kernel
theorem dX6_init_200 : decode cX6_init 200 = .ok (.dup, 1) := by decide +kernel
theorem dX6_init_201 : decode cX6_init 201 = .ok (.aload_n 0, 1) := by decide +kernel
theorem dX6_init_202 : decode cX6_init 202 = .ok (.getfield 11, 3) := by decide +kernel
theorem dX6_init_205 : decode cX6_init 205 = .ok (.iconst 0, 1) := by decide +kernel
theorem dX6_init_206 : decode cX6_init 206 = .ok (.aaload, 1) := by decide +kernel
theorem dX6_init_207 : decode cX6_init 207 = .ok (.invokespecial 71, 3) := by decide +kernel
theorem dX6_init_210 : decode cX6_init 210 = .ok (.putfield 74, 3) := by decide +kernel
theorem dX6_init_213 : decode cX6_init 213 = .ok (.aload_n 0, 1) := by decide +kernel
theorem dX6_init_214 : decode cX6_init 214 = .ok (.new 69, 3) := by decide +kernel
theorem dX6_init_217 : decode cX6_init 217 = .ok (.dup, 1) := by decide +kernel
theorem dX6_init_218 : decode cX6_init 218 = .ok (.aload_n 0, 1) := by decide +kernel
theorem dX6_init_219 : decode cX6_init 219 = .ok (.getfield 11, 3) := by decide +kernel
theorem dX6_init_222 : decode cX6_init 222 = .ok (.iconst 0, 1) := by decide +kernel
theorem dX6_init_223 : decode cX6_init 223 = .ok (.aaload, 1) := by decide +kernel
theorem dX6_init_224 : decode cX6_init 224 = .ok (.invokespecial 71, 3) := by decide +kernel
theorem dX6_init_227 : decode cX6_init 227 = .ok (.putfield 78, 3) := by decide +kernel
theorem dX6_init_230 : decode cX6_init 230 = .ok (.aload_n 0, 1) := by decide +kernel
theorem dX6_init_231 : decode cX6_init 231 = .ok (.new 81, 3) := by decide +kernel
theorem dX6_init_234 : decode cX6_init 234 = .ok (.dup, 1) := by decide +kernel
theorem dX6_init_235 : decode cX6_init 235 = .ok (.aload_n 0, 1) := by decide +kernel
theorem dX6_init_236 : decode cX6_init 236 = .ok (.getfield 11, 3) := by decide +kernel
theorem dX6_init_239 : decode cX6_init 239 = .ok (.iconst 0, 1) := by decide +kernel
theorem dX6_init_240 : decode cX6_init 240 = .ok (.aaload, 1) := by decide +kernel
theorem dX6_init_241 : decode cX6_init 241 = .ok (.invokespecial 83, 3) := by decide +kernel
theorem dX6_init_244 : decode cX6_init 244 = .ok (.putfield 84, 3) := by decide +kernel
theorem dX6_init_247 : decode cX6_init 247 = .ok (.return_, 1) := by decide +kernel
theorem dX6_set_0 : decode cX6_set 0 = .ok (.iload_n 1, 1) := by decide +kernel
theorem dX6_set_1 : decode cX6_set 1 = .ok (.ifCond .ne 9, 3) := by decide +kernel
theorem dX6_set_4 : decode cX6_set 4 = .ok (.aload_n 0, 1) := by decide +kernel
theorem dX6_set_5 : decode cX6_set 5 = .ok (.iload_n 3, 1) := by decide +kernel
theorem dX6_set_6 : decode cX6_set 6 = .ok (.invokevirtual 88, 3) := by decide +kernel
theorem dX6_set_9 : decode cX6_set 9 = .ok (.ireturn, 1) := by decide +kernel
theorem dX6_set_10 : decode cX6_set 10 = .ok (.iload_n 1, 1) := by decide +kernel
theorem dX6_set_11 : decode cX6_set 11 = .ok (.iconst 1, 1) := by decide +kernel
theorem dX6_set_12 : decode cX6_set 12 = .ok (.if_icmp .ne 10, 3) := by decide +kernel
theorem dX6_set_15 : decode cX6_set 15 = .ok (.aload_n 0, 1) := by decide +kernel
theorem dX6_set_16 : decode cX6_set 16 = .ok (.iload_n 2, 1) := by decide +kernel
theorem dX6_set_17 : decode cX6_set 17 = .ok (.iload_n 3, 1) := by decide +kernel
theorem dX6_set_18 : decode cX6_set 18 = .ok (.invokevirtual 92, 3) := by decide +kernel
theorem dX6_set_21 : decode cX6_set 21 = .ok (.ireturn, 1) := by decide +kernel
theorem dX6_set_22 : decode cX6_set 22 = .ok (.aload_n 0, 1) := by decide +kernel
theorem dX6_set_23 : decode cX6_set 23 = .ok (.iload_n 2, 1) := by decide +kernel
theorem dX6_set_24 : decode cX6_set 24 = .ok (.invokevirtual 96, 3) := by decide +kernel
theorem dX6_set_27 : decode cX6_set 27 = .ok (.astore 4, 2) := by decide +kernel
theorem dX6_set_29 : decode cX6_set 29 = .ok (.aload 4, 2) := by decide +kernel
theorem dX6_set_31 : decode cX6_set 31 = .ok (.ifnonnull 8, 3) := by decide +kernel
theorem dX6_set_34 : decode cX6_set 34 = .ok (.bipush (-2), 2) := by decide +kernel
theorem dX6_set_36 : decode cX6_set 36 = .ok (.goto 10, 3) := by decide +kernel
theorem dX6_set_39 : decode cX6_set 39 = .ok (.aload 4, 2) := by decide +kernel
theorem dX6_set_41 : decode cX6_set 41 = .ok (.iload_n 1, 1) := by decide +kernel
theorem dX6_set_42 : decode cX6_set 42 = .ok (.iload_n 3, 1) := by decide +kernel
theorem dX6_set_43 : decode cX6_set 43 = .ok (.invokevirtual 100, 3) := by decide +kernel
theorem dX6_set_46 : decode cX6_set 46 = .ok (.ireturn, 1) := by decide +kernel
theorem dX6_setDay_0 : decode cX6_setDay 0 = .ok (.iload_n 1, 1) := by decide +kernel
theorem dX6_setDay_1 : decode cX6_setDay 1 = .ok (.ifCond .lt 10, 3) := by decide +kernel
theorem dX6_setDay_4 : decode cX6_setDay 4 = .ok (.iload_n 1, 1) := by decide +kernel
theorem dX6_setDay_5 : decode cX6_setDay 5 = .ok (.sipush 999, 3) := by decide +kernel
theorem dX6_setDay_8 : decode cX6_setDay 8 = .ok (.if_icmp .le 6, 3) := by decide +kernel
theorem dX6_setDay_11 : decode cX6_setDay 11 = .ok (.bipush (-2), 2) := by decide +kernel
theorem dX6_setDay_13 : decode cX6_setDay 13 = .ok (.ireturn, 1) := by decide +kernel
theorem dX6_setDay_14 : decode cX6_setDay 14 = .ok (.aload_n 0, 1) := by decide +kernel
theorem dX6_setDay_15 : decode cX6_setDay 15 = .ok (.getfield 74, 3) := by decide +kernel
theorem dX6_setDay_18 : decode cX6_setDay 18 = .ok (.getfield 103, 3) := by decide +kernel
theorem dX6_setDay_21 : decode cX6_setDay 21 = .ok (.istore_n 2, 1) := by decide +kernel
theorem dX6_setDay_22 : decode cX6_setDay 22 = .ok (.aload_n 0, 1) := by decide +kernel
theorem dX6_setDay_23 : decode cX6_setDay 23 = .ok (.getfield 74, 3) := by decide +kernel
theorem dX6_setDay_26 : decode cX6_setDay 26 = .ok (.iload_n 1, 1) := by decide +kernel
theorem dX6_setDay_27 : decode cX6_setDay 27 = .ok (.putfield 103, 3) := by decide +kernel
theorem dX6_setDay_30 : decode cX6_setDay 30 = .ok (.iload_n 2, 1) := by decide +kernel
theorem dX6_setDay_31 : decode cX6_setDay 31 = .ok (.ireturn, 1) := by decide +kernel
theorem dX6_setHard_0 : decode cX6_setHard 0 = .ok (.iload_n 1, 1) := by decide +kernel
theorem dX6_setHard_1 : decode cX6_setHard 1 = .ok (.invokestatic 106, 3) := by decide +kernel
theorem dX6_setHard_4 : decode cX6_setHard 4 = .ok (.ifCond .eq 13, 3) := by decide +kernel
theorem dX6_setHard_7 : decode cX6_setHard 7 = .ok (.iload_n 2, 1) := by decide +kernel
theorem dX6_setHard_8 : decode cX6_setHard 8 = .ok (.ifCond .lt 9, 3) := by decide +kernel
theorem dX6_setHard_11 : decode cX6_setHard 11 = .ok (.iload_n 2, 1) := by decide +kernel
theorem dX6_setHard_12 : decode cX6_setHard 12 = .ok (.bipush 99, 2) := by decide +kernel
theorem dX6_setHard_14 : decode cX6_setHard 14 = .ok (.if_icmp .le 6, 3) := by decide +kernel
theorem dX6_setHard_17 : decode cX6_setHard 17 = .ok (.bipush (-2), 2) := by decide +kernel
theorem dX6_setHard_19 : decode cX6_setHard 19 = .ok (.ireturn, 1) := by decide +kernel
theorem dX6_setHard_20 : decode cX6_setHard 20 = .ok (.aload_n 0, 1) := by decide +kernel
theorem dX6_setHard_21 : decode cX6_setHard 21 = .ok (.getfield 74, 3) := by decide +kernel
theorem dX6_setHard_24 : decode cX6_setHard 24 = .ok (.getfield 109, 3) := by decide +kernel
theorem dX6_setHard_27 : decode cX6_setHard 27 = .ok (.iload_n 1, 1) := by decide +kernel
theorem dX6_setHard_28 : decode cX6_setHard 28 = .ok (.iaload, 1) := by decide +kernel
theorem dX6_setHard_29 : decode cX6_setHard 29 = .ok (.istore_n 3, 1) := by decide +kernel
theorem dX6_setHard_30 : decode cX6_setHard 30 = .ok (.aload_n 0, 1) := by decide +kernel
theorem dX6_setHard_31 : decode cX6_setHard 31 = .ok (.getfield 74, 3) := by decide +kernel
theorem dX6_setHard_34 : decode cX6_setHard 34 = .ok (.getfield 109, 3) := by decide +kernel
theorem dX6_setHard_37 : decode cX6_setHard 37 = .ok (.iload_n 1, 1) := by decide +kernel
theorem dX6_setHard_38 : decode cX6_setHard 38 = .ok (.iload_n 2, 1) := by decide +kernel
theorem dX6_setHard_39 : decode cX6_setHard 39 = .ok (.iastore, 1) := by decide +kernel
theorem dX6_setHard_40 : decode cX6_setHard 40 = .ok (.iload_n 3, 1) := by decide +kernel
theorem dX6_setHard_41 : decode cX6_setHard 41 = .ok (.ireturn, 1) := by decide +kernel
theorem dX6_learner_0 : decode cX6_learner 0 = .ok (.aload_n 0, 1) := by decide +kernel
theorem dX6_learner_1 : decode cX6_learner 1 = .ok (.iload_n 1, 1) := by decide +kernel
theorem dX6_learner_2 : decode cX6_learner 2 = .ok (.iload_n 2, 1) := by decide +kernel
theorem dX6_learner_3 : decode cX6_learner 3 = .ok (.invokevirtual 113, 3) := by decide +kernel
theorem dX6_learner_6 : decode cX6_learner 6 = .ok (.ireturn, 1) := by decide +kernel
theorem dX6_comes_0 : decode cX6_comes 0 = .ok (.iload_n 1, 1) := by decide +kernel
theorem dX6_comes_1 : decode cX6_comes 1 = .ok (.ifCond .lt 19, 3) := by decide +kernel
theorem dX6_comes_4 : decode cX6_comes 4 = .ok (.iload_n 1, 1) := by decide +kernel
theorem dX6_comes_5 : decode cX6_comes 5 = .ok (.bipush 6, 2) := by decide +kernel
theorem dX6_comes_7 : decode cX6_comes 7 = .ok (.if_icmp .ge 13, 3) := by decide +kernel
theorem dX6_comes_10 : decode cX6_comes 10 = .ok (.iload_n 2, 1) := by decide +kernel
theorem dX6_comes_11 : decode cX6_comes 11 = .ok (.ifCond .lt 9, 3) := by decide +kernel
theorem dX6_comes_14 : decode cX6_comes 14 = .ok (.iload_n 2, 1) := by decide +kernel
theorem dX6_comes_15 : decode cX6_comes 15 = .ok (.bipush 10, 2) := by decide +kernel
theorem dX6_comes_17 : decode cX6_comes 17 = .ok (.if_icmp .lt 6, 3) := by decide +kernel
theorem dX6_comes_20 : decode cX6_comes 20 = .ok (.bipush (-2), 2) := by decide +kernel
theorem dX6_comes_22 : decode cX6_comes 22 = .ok (.ireturn, 1) := by decide +kernel
theorem dX6_comes_23 : decode cX6_comes 23 = .ok (.aload_n 0, 1) := by decide +kernel
theorem dX6_comes_24 : decode cX6_comes 24 = .ok (.getfield 116, 3) := by decide +kernel
theorem dX6_comes_27 : decode cX6_comes 27 = .ok (.ifCond .lt 11, 3) := by decide +kernel
theorem dX6_comes_30 : decode cX6_comes 30 = .ok (.aload_n 0, 1) := by decide +kernel
theorem dX6_comes_31 : decode cX6_comes 31 = .ok (.getfield 116, 3) := by decide +kernel
theorem dX6_comes_34 : decode cX6_comes 34 = .ok (.iconst 5, 1) := by decide +kernel
theorem dX6_comes_35 : decode cX6_comes 35 = .ok (.if_icmp .lt 6, 3) := by decide +kernel
theorem dX6_comes_38 : decode cX6_comes 38 = .ok (.bipush (-4), 2) := by decide +kernel
theorem dX6_comes_40 : decode cX6_comes 40 = .ok (.ireturn, 1) := by decide +kernel
theorem dX6_comes_41 : decode cX6_comes 41 = .ok (.aload_n 0, 1) := by decide +kernel
theorem dX6_comes_42 : decode cX6_comes 42 = .ok (.getfield 24, 3) := by decide +kernel
theorem dX6_comes_45 : decode cX6_comes 45 = .ok (.aload_n 0, 1) := by decide +kernel
theorem dX6_comes_46 : decode cX6_comes 46 = .ok (.getfield 116, 3) := by decide +kernel
theorem dX6_comes_49 : decode cX6_comes 49 = .ok (.aaload, 1) := by decide +kernel
theorem dX6_comes_50 : decode cX6_comes 50 = .ok (.iload_n 1, 1) := by decide +kernel
theorem dX6_comes_51 : decode cX6_comes 51 = .ok (.iload_n 2, 1) := by decide +kernel
theorem dX6_comes_52 : decode cX6_comes 52 = .ok (.invokevirtual 119, 3) := by decide +kernel
theorem dX6_comes_55 : decode cX6_comes 55 = .ok (.aload_n 0, 1) := by decide +kernel
theorem dX6_comes_56 : decode cX6_comes 56 = .ok (.dup, 1) := by decide +kernel
theorem dX6_comes_57 : decode cX6_comes 57 = .ok (.getfield 116, 3) := by decide +kernel
theorem dX6_comes_60 : decode cX6_comes 60 = .ok (.iconst 1, 1) := by decide +kernel
theorem dX6_comes_61 : decode cX6_comes 61 = .ok (.iadd, 1) := by decide +kernel
theorem dX6_comes_62 : decode cX6_comes 62 = .ok (.putfield 116, 3) := by decide +kernel
theorem dX6_comes_65 : decode cX6_comes 65 = .ok (.aload_n 0, 1) := by decide +kernel
theorem dX6_comes_66 : decode cX6_comes 66 = .ok (.getfield 116, 3) := by decide +kernel
theorem dX6_comes_69 : decode cX6_comes 69 = .ok (.iconst 1, 1) := by decide +kernel
theorem dX6_comes_70 : decode cX6_comes 70 = .ok (.isub, 1) := by decide +kernel
theorem dX6_comes_71 : decode cX6_comes 71 = .ok (.ireturn, 1) := by decide +kernel
theorem dX6_told_0 : decode cX6_told 0 = .ok (.iload_n 2, 1) := by decide +kernel
theorem dX6_told_1 : decode cX6_told 1 = .ok (.ifCond .ne 11, 3) := by decide +kernel
theorem dX6_told_4 : decode cX6_told 4 = .ok (.aload_n 0, 1) := by decide +kernel
theorem dX6_told_5 : decode cX6_told 5 = .ok (.getfield 74, 3) := by decide +kernel
theorem dX6_told_8 : decode cX6_told 8 = .ok (.getfield 103, 3) := by decide +kernel
theorem dX6_told_11 : decode cX6_told 11 = .ok (.ireturn, 1) := by decide +kernel
theorem dX6_told_12 : decode cX6_told 12 = .ok (.iload_n 2, 1) := by decide +kernel
theorem dX6_told_13 : decode cX6_told 13 = .ok (.iconst 1, 1) := by decide +kernel
theorem dX6_told_14 : decode cX6_told 14 = .ok (.if_icmp .ne 25, 3) := by decide +kernel
theorem dX6_told_17 : decode cX6_told 17 = .ok (.iload_n 1, 1) := by decide +kernel
theorem dX6_told_18 : decode cX6_told 18 = .ok (.invokestatic 106, 3) := by decide +kernel
theorem dX6_told_21 : decode cX6_told 21 = .ok (.ifCond .eq 15, 3) := by decide +kernel
theorem dX6_told_24 : decode cX6_told 24 = .ok (.aload_n 0, 1) := by decide +kernel
theorem dX6_told_25 : decode cX6_told 25 = .ok (.getfield 74, 3) := by decide +kernel
theorem dX6_told_28 : decode cX6_told 28 = .ok (.getfield 109, 3) := by decide +kernel
theorem dX6_told_31 : decode cX6_told 31 = .ok (.iload_n 1, 1) := by decide +kernel
theorem dX6_told_32 : decode cX6_told 32 = .ok (.iaload, 1) := by decide +kernel
theorem dX6_told_33 : decode cX6_told 33 = .ok (.goto 5, 3) := by decide +kernel
theorem dX6_told_36 : decode cX6_told 36 = .ok (.bipush (-2), 2) := by decide +kernel
theorem dX6_told_38 : decode cX6_told 38 = .ok (.ireturn, 1) := by decide +kernel
theorem dX6_told_39 : decode cX6_told 39 = .ok (.aload_n 0, 1) := by decide +kernel
theorem dX6_told_40 : decode cX6_told 40 = .ok (.iload_n 1, 1) := by decide +kernel
theorem dX6_told_41 : decode cX6_told 41 = .ok (.invokevirtual 96, 3) := by decide +kernel
theorem dX6_told_44 : decode cX6_told 44 = .ok (.astore_n 3, 1) := by decide +kernel
theorem dX6_told_45 : decode cX6_told 45 = .ok (.aload_n 3, 1) := by decide +kernel
theorem dX6_told_46 : decode cX6_told 46 = .ok (.ifnonnull 6, 3) := by decide +kernel
theorem dX6_told_49 : decode cX6_told 49 = .ok (.bipush (-2), 2) := by decide +kernel
theorem dX6_told_51 : decode cX6_told 51 = .ok (.ireturn, 1) := by decide +kernel
theorem dX6_told_52 : decode cX6_told 52 = .ok (.iload_n 2, 1) := by decide +kernel
theorem dX6_told_53 : decode cX6_told 53 = .ok (.bipush 6, 2) := by decide +kernel
theorem dX6_told_55 : decode cX6_told 55 = .ok (.if_icmp .ne 20, 3) := by decide +kernel
theorem dX6_told_58 : decode cX6_told 58 = .ok (.aload_n 0, 1) := by decide +kernel
theorem dX6_told_59 : decode cX6_told 59 = .ok (.getfield 74, 3) := by decide +kernel
theorem dX6_told_62 : decode cX6_told 62 = .ok (.aload_n 3, 1) := by decide +kernel
theorem dX6_told_63 : decode cX6_told 63 = .ok (.invokevirtual 123, 3) := by decide +kernel
theorem dX6_told_66 : decode cX6_told 66 = .ok (.ifCond .eq 7, 3) := by decide +kernel
theorem dX6_told_69 : decode cX6_told 69 = .ok (.iconst 1, 1) := by decide +kernel
theorem dX6_told_70 : decode cX6_told 70 = .ok (.goto 4, 3) := by decide +kernel
theorem dX6_told_73 : decode cX6_told 73 = .ok (.iconst 0, 1) := by decide +kernel
theorem dX6_told_74 : decode cX6_told 74 = .ok (.ireturn, 1) := by decide +kernel
theorem dX6_told_75 : decode cX6_told 75 = .ok (.iload_n 2, 1) := by decide +kernel
theorem dX6_told_76 : decode cX6_told 76 = .ok (.bipush 7, 2) := by decide +kernel
theorem dX6_told_78 : decode cX6_told 78 = .ok (.if_icmp .ne 12, 3) := by decide +kernel
theorem dX6_told_81 : decode cX6_told 81 = .ok (.aload_n 0, 1) := by decide +kernel
theorem dX6_told_82 : decode cX6_told 82 = .ok (.getfield 74, 3) := by decide +kernel
theorem dX6_told_85 : decode cX6_told 85 = .ok (.aload_n 3, 1) := by decide +kernel
theorem dX6_told_86 : decode cX6_told 86 = .ok (.invokevirtual 127, 3) := by decide +kernel
theorem dX6_told_89 : decode cX6_told 89 = .ok (.ireturn, 1) := by decide +kernel
theorem dX6_told_90 : decode cX6_told 90 = .ok (.iload_n 2, 1) := by decide +kernel
theorem dX6_told_91 : decode cX6_told 91 = .ok (.bipush 20, 2) := by decide +kernel
theorem dX6_told_93 : decode cX6_told 93 = .ok (.if_icmp .lt 34, 3) := by decide +kernel
theorem dX6_told_96 : decode cX6_told 96 = .ok (.iload_n 2, 1) := by decide +kernel
theorem dX6_told_97 : decode cX6_told 97 = .ok (.bipush 20, 2) := by decide +kernel
theorem dX6_told_99 : decode cX6_told 99 = .ok (.isub, 1) := by decide +kernel
theorem dX6_told_100 : decode cX6_told 100 = .ok (.invokestatic 106, 3) := by decide +kernel
theorem dX6_told_103 : decode cX6_told 103 = .ok (.ifCond .eq 24, 3) := by decide +kernel
theorem dX6_told_106 : decode cX6_told 106 = .ok (.aload_n 0, 1) := by decide +kernel
theorem dX6_told_107 : decode cX6_told 107 = .ok (.getfield 74, 3) := by decide +kernel
theorem dX6_told_110 : decode cX6_told 110 = .ok (.aload_n 3, 1) := by decide +kernel
theorem dX6_told_111 : decode cX6_told 111 = .ok (.iload_n 2, 1) := by decide +kernel
theorem dX6_told_112 : decode cX6_told 112 = .ok (.bipush 20, 2) := by decide +kernel
theorem dX6_told_114 : decode cX6_told 114 = .ok (.isub, 1) := by decide +kernel
theorem dX6_told_115 : decode cX6_told 115 = .ok (.invokevirtual 131, 3) := by decide +kernel
theorem dX6_told_118 : decode cX6_told 118 = .ok (.ifCond .lt 7, 3) := by decide +kernel
theorem dX6_told_121 : decode cX6_told 121 = .ok (.iconst 1, 1) := by decide +kernel
theorem dX6_told_122 : decode cX6_told 122 = .ok (.goto 4, 3) := by decide +kernel
theorem dX6_told_125 : decode cX6_told 125 = .ok (.iconst 0, 1) := by decide +kernel
theorem dX6_told_126 : decode cX6_told 126 = .ok (.ireturn, 1) := by decide +kernel
theorem dX6_told_127 : decode cX6_told 127 = .ok (.aload_n 3, 1) := by decide +kernel
theorem dX6_told_128 : decode cX6_told 128 = .ok (.iload_n 2, 1) := by decide +kernel
theorem dX6_told_129 : decode cX6_told 129 = .ok (.invokevirtual 135, 3) := by decide +kernel
theorem dX6_told_132 : decode cX6_told 132 = .ok (.ireturn, 1) := by decide +kernel
theorem dX6_asks_0 : decode cX6_asks 0 = .ok (.aload_n 0, 1) := by decide +kernel
theorem dX6_asks_1 : decode cX6_asks 1 = .ok (.iload_n 1, 1) := by decide +kernel
theorem dX6_asks_2 : decode cX6_asks 2 = .ok (.invokevirtual 96, 3) := by decide +kernel
theorem dX6_asks_5 : decode cX6_asks 5 = .ok (.astore 4, 2) := by decide +kernel
theorem dX6_asks_7 : decode cX6_asks 7 = .ok (.aload 4, 2) := by decide +kernel
theorem dX6_asks_9 : decode cX6_asks 9 = .ok (.ifnull 19, 3) := by decide +kernel
theorem dX6_asks_12 : decode cX6_asks 12 = .ok (.iload_n 2, 1) := by decide +kernel
theorem dX6_asks_13 : decode cX6_asks 13 = .ok (.invokestatic 106, 3) := by decide +kernel
theorem dX6_asks_16 : decode cX6_asks 16 = .ok (.ifCond .eq 12, 3) := by decide +kernel
theorem dX6_asks_19 : decode cX6_asks 19 = .ok (.iload_n 3, 1) := by decide +kernel
theorem dX6_asks_20 : decode cX6_asks 20 = .ok (.ifCond .lt 8, 3) := by decide +kernel
theorem dX6_asks_23 : decode cX6_asks 23 = .ok (.iload_n 3, 1) := by decide +kernel
theorem dX6_asks_24 : decode cX6_asks 24 = .ok (.iconst 4, 1) := by decide +kernel
theorem dX6_asks_25 : decode cX6_asks 25 = .ok (.if_icmp .le 7, 3) := by decide +kernel
theorem dX6_asks_28 : decode cX6_asks 28 = .ok (.sipush (-1000), 3) := by decide +kernel
theorem dX6_asks_31 : decode cX6_asks 31 = .ok (.ireturn, 1) := by decide +kernel
theorem dX6_asks_32 : decode cX6_asks 32 = .ok (.iload_n 3, 1) := by decide +kernel
theorem dX6_asks_33 : decode cX6_asks 33 = .ok (.iconst 3, 1) := by decide +kernel
theorem dX6_asks_34 : decode cX6_asks 34 = .ok (.if_icmp .ge 15, 3) := by decide +kernel
theorem dX6_asks_37 : decode cX6_asks 37 = .ok (.aload_n 0, 1) := by decide +kernel
theorem dX6_asks_38 : decode cX6_asks 38 = .ok (.getfield 74, 3) := by decide +kernel
theorem dX6_asks_41 : decode cX6_asks 41 = .ok (.aload 4, 2) := by decide +kernel
theorem dX6_asks_43 : decode cX6_asks 43 = .ok (.iload_n 2, 1) := by decide +kernel
theorem dX6_asks_44 : decode cX6_asks 44 = .ok (.iload_n 3, 1) := by decide +kernel
theorem dX6_asks_45 : decode cX6_asks 45 = .ok (.invokevirtual 138, 3) := by decide +kernel
theorem dX6_asks_48 : decode cX6_asks 48 = .ok (.ireturn, 1) := by decide +kernel
theorem dX6_asks_49 : decode cX6_asks 49 = .ok (.iload_n 3, 1) := by decide +kernel
theorem dX6_asks_50 : decode cX6_asks 50 = .ok (.iconst 3, 1) := by decide +kernel
theorem dX6_asks_51 : decode cX6_asks 51 = .ok (.if_icmp .ne 16, 3) := by decide +kernel
theorem dX6_asks_54 : decode cX6_asks 54 = .ok (.aload_n 0, 1) := by decide +kernel
theorem dX6_asks_55 : decode cX6_asks 55 = .ok (.getfield 74, 3) := by decide +kernel
theorem dX6_asks_58 : decode cX6_asks 58 = .ok (.aload 4, 2) := by decide +kernel
theorem dX6_asks_60 : decode cX6_asks 60 = .ok (.iload_n 2, 1) := by decide +kernel
theorem dX6_asks_61 : decode cX6_asks 61 = .ok (.invokevirtual 142, 3) := by decide +kernel
theorem dX6_asks_64 : decode cX6_asks 64 = .ok (.goto 13, 3) := by decide +kernel
theorem dX6_asks_67 : decode cX6_asks 67 = .ok (.aload_n 0, 1) := by decide +kernel
theorem dX6_asks_68 : decode cX6_asks 68 = .ok (.getfield 74, 3) := by decide +kernel
theorem dX6_asks_71 : decode cX6_asks 71 = .ok (.aload 4, 2) := by decide +kernel
theorem dX6_asks_73 : decode cX6_asks 73 = .ok (.iload_n 2, 1) := by decide +kernel
theorem dX6_asks_74 : decode cX6_asks 74 = .ok (.invokevirtual 145, 3) := by decide +kernel
theorem dX6_asks_77 : decode cX6_asks 77 = .ok (.ireturn, 1) := by decide +kernel
theorem dX6_feed_0 : decode cX6_feed 0 = .ok (.iload_n 1, 1) := by decide +kernel
theorem dX6_feed_1 : decode cX6_feed 1 = .ok (.ifCond .lt 10, 3) := by decide +kernel
theorem dX6_feed_4 : decode cX6_feed 4 = .ok (.iload_n 1, 1) := by decide +kernel
theorem dX6_feed_5 : decode cX6_feed 5 = .ok (.sipush 255, 3) := by decide +kernel
theorem dX6_feed_8 : decode cX6_feed 8 = .ok (.if_icmp .le 6, 3) := by decide +kernel
theorem dX6_feed_11 : decode cX6_feed 11 = .ok (.bipush (-2), 2) := by decide +kernel
theorem dX6_feed_13 : decode cX6_feed 13 = .ok (.ireturn, 1) := by decide +kernel
theorem dX6_feed_14 : decode cX6_feed 14 = .ok (.aload_n 0, 1) := by decide +kernel
theorem dX6_feed_15 : decode cX6_feed 15 = .ok (.getfield 18, 3) := by decide +kernel
theorem dX6_feed_18 : decode cX6_feed 18 = .ok (.iload_n 1, 1) := by decide +kernel
theorem dX6_feed_19 : decode cX6_feed 19 = .ok (.invokevirtual 58, 3) := by decide +kernel
theorem dX6_feed_22 : decode cX6_feed 22 = .ok (.ifCond .eq 13, 3) := by decide +kernel
theorem dX6_feed_25 : decode cX6_feed 25 = .ok (.aload_n 0, 1) := by decide +kernel
theorem dX6_feed_26 : decode cX6_feed 26 = .ok (.getfield 18, 3) := by decide +kernel
theorem dX6_feed_29 : decode cX6_feed 29 = .ok (.getfield 148, 3) := by decide +kernel
theorem dX6_feed_32 : decode cX6_feed 32 = .ok (.goto 5, 3) := by decide +kernel
theorem dX6_feed_35 : decode cX6_feed 35 = .ok (.bipush (-4), 2) := by decide +kernel
theorem dX6_feed_37 : decode cX6_feed 37 = .ok (.ireturn, 1) := by decide +kernel
theorem dX6_text_0 : decode cX6_text 0 = .ok (.aload_n 0, 1) := by decide +kernel
theorem dX6_text_1 : decode cX6_text 1 = .ok (.getfield 66, 3) := by decide +kernel
theorem dX6_text_4 : decode cX6_text 4 = .ok (.ifCond .lt 12, 3) := by decide +kernel
theorem dX6_text_7 : decode cX6_text 7 = .ok (.aload_n 0, 1) := by decide +kernel
theorem dX6_text_8 : decode cX6_text 8 = .ok (.getfield 66, 3) := by decide +kernel
theorem dX6_text_11 : decode cX6_text 11 = .ok (.bipush 6, 2) := by decide +kernel
theorem dX6_text_13 : decode cX6_text 13 = .ok (.if_icmp .lt 6, 3) := by decide +kernel
theorem dX6_text_16 : decode cX6_text 16 = .ok (.bipush (-4), 2) := by decide +kernel
theorem dX6_text_18 : decode cX6_text 18 = .ok (.ireturn, 1) := by decide +kernel
theorem dX6_text_19 : decode cX6_text 19 = .ok (.aload_n 0, 1) := by decide +kernel
theorem dX6_text_20 : decode cX6_text 20 = .ok (.getfield 18, 3) := by decide +kernel
theorem dX6_text_23 : decode cX6_text 23 = .ok (.aload_n 0, 1) := by decide +kernel
theorem dX6_text_24 : decode cX6_text 24 = .ok (.getfield 11, 3) := by decide +kernel
theorem dX6_text_27 : decode cX6_text 27 = .ok (.aload_n 0, 1) := by decide +kernel
theorem dX6_text_28 : decode cX6_text 28 = .ok (.getfield 66, 3) := by decide +kernel
theorem dX6_text_31 : decode cX6_text 31 = .ok (.aaload, 1) := by decide +kernel
theorem dX6_text_32 : decode cX6_text 32 = .ok (.invokevirtual 62, 3) := by decide +kernel
theorem dX6_text_35 : decode cX6_text 35 = .ok (.istore_n 1, 1) := by decide +kernel
theorem dX6_text_36 : decode cX6_text 36 = .ok (.iload_n 1, 1) := by decide +kernel
theorem dX6_text_37 : decode cX6_text 37 = .ok (.iconst (-1), 1) := by decide +kernel
theorem dX6_text_38 : decode cX6_text 38 = .ok (.if_icmp .eq 8, 3) := by decide +kernel
theorem dX6_text_41 : decode cX6_text 41 = .ok (.bipush (-100), 2) := by decide +kernel
theorem dX6_text_43 : decode cX6_text 43 = .ok (.iload_n 1, 1) := by decide +kernel
theorem dX6_text_44 : decode cX6_text 44 = .ok (.isub, 1) := by decide +kernel
theorem dX6_text_45 : decode cX6_text 45 = .ok (.ireturn, 1) := by decide +kernel
theorem dX6_text_46 : decode cX6_text 46 = .ok (.aload_n 0, 1) := by decide +kernel
theorem dX6_text_47 : decode cX6_text 47 = .ok (.dup, 1) := by decide +kernel
theorem dX6_text_48 : decode cX6_text 48 = .ok (.getfield 66, 3) := by decide +kernel
theorem dX6_text_51 : decode cX6_text 51 = .ok (.iconst 1, 1) := by decide +kernel
theorem dX6_text_52 : decode cX6_text 52 = .ok (.iadd, 1) := by decide +kernel
theorem dX6_text_53 : decode cX6_text 53 = .ok (.putfield 66, 3) := by decide +kernel
theorem dX6_text_56 : decode cX6_text 56 = .ok (.aload_n 0, 1) := by decide +kernel
theorem dX6_text_57 : decode cX6_text 57 = .ok (.getfield 66, 3) := by decide +kernel
theorem dX6_text_60 : decode cX6_text 60 = .ok (.iconst 1, 1) := by decide +kernel
theorem dX6_text_61 : decode cX6_text 61 = .ok (.isub, 1) := by decide +kernel
theorem dX6_text_62 : decode cX6_text 62 = .ok (.ireturn, 1) := by decide +kernel
theorem dX6_force_0 : decode cX6_force 0 = .ok (.aload_n 0, 1) := by decide +kernel
theorem dX6_force_1 : decode cX6_force 1 = .ok (.iload_n 1, 1) := by decide +kernel
theorem dX6_force_2 : decode cX6_force 2 = .ok (.invokevirtual 151, 3) := by decide +kernel
theorem dX6_force_5 : decode cX6_force 5 = .ok (.astore_n 2, 1) := by decide +kernel
theorem dX6_force_6 : decode cX6_force 6 = .ok (.aload_n 2, 1) := by decide +kernel
theorem dX6_force_7 : decode cX6_force 7 = .ok (.ifnonnull 6, 3) := by decide +kernel
theorem dX6_force_10 : decode cX6_force 10 = .ok (.bipush (-2), 2) := by decide +kernel
theorem dX6_force_12 : decode cX6_force 12 = .ok (.ireturn, 1) := by decide +kernel
theorem dX6_force_13 : decode cX6_force 13 = .ok (.aload_n 0, 1) := by decide +kernel
theorem dX6_force_14 : decode cX6_force 14 = .ok (.getfield 74, 3) := by decide +kernel
theorem dX6_force_17 : decode cX6_force 17 = .ok (.getfield 155, 3) := by decide +kernel
theorem dX6_force_20 : decode cX6_force 20 = .ok (.getfield 159, 3) := by decide +kernel
theorem dX6_force_23 : decode cX6_force 23 = .ok (.istore_n 3, 1) := by decide +kernel
theorem dX6_force_24 : decode cX6_force 24 = .ok (.aload_n 0, 1) := by decide +kernel
theorem dX6_force_25 : decode cX6_force 25 = .ok (.getfield 74, 3) := by decide +kernel
theorem dX6_force_28 : decode cX6_force 28 = .ok (.aload_n 2, 1) := by decide +kernel
theorem dX6_force_29 : decode cX6_force 29 = .ok (.putfield 155, 3) := by decide +kernel
theorem dX6_force_32 : decode cX6_force 32 = .ok (.iload_n 3, 1) := by decide +kernel
theorem dX6_force_33 : decode cX6_force 33 = .ok (.ireturn, 1) := by decide +kernel
theorem dX6_drive_0 : decode cX6_drive 0 = .ok (.aload_n 0, 1) := by decide +kernel
theorem dX6_drive_1 : decode cX6_drive 1 = .ok (.iload_n 1, 1) := by decide +kernel
theorem dX6_drive_2 : decode cX6_drive 2 = .ok (.invokevirtual 96, 3) := by decide +kernel
theorem dX6_drive_5 : decode cX6_drive 5 = .ok (.astore 4, 2) := by decide +kernel
theorem dX6_drive_7 : decode cX6_drive 7 = .ok (.aload 4, 2) := by decide +kernel
theorem dX6_drive_9 : decode cX6_drive 9 = .ok (.ifnull 17, 3) := by decide +kernel
theorem dX6_drive_12 : decode cX6_drive 12 = .ok (.iload_n 2, 1) := by decide +kernel
theorem dX6_drive_13 : decode cX6_drive 13 = .ok (.invokestatic 106, 3) := by decide +kernel
theorem dX6_drive_16 : decode cX6_drive 16 = .ok (.ifCond .eq 10, 3) := by decide +kernel
theorem dX6_drive_19 : decode cX6_drive 19 = .ok (.iload_n 3, 1) := by decide +kernel
theorem dX6_drive_20 : decode cX6_drive 20 = .ok (.invokestatic 162, 3) := by decide +kernel
theorem dX6_drive_23 : decode cX6_drive 23 = .ok (.ifCond .ne 6, 3) := by decide +kernel
theorem dX6_drive_26 : decode cX6_drive 26 = .ok (.bipush (-2), 2) := by decide +kernel
theorem dX6_drive_28 : decode cX6_drive 28 = .ok (.ireturn, 1) := by decide +kernel
theorem dX6_drive_29 : decode cX6_drive 29 = .ok (.aload_n 0, 1) := by decide +kernel
theorem dX6_drive_30 : decode cX6_drive 30 = .ok (.getfield 74, 3) := by decide +kernel
theorem dX6_drive_33 : decode cX6_drive 33 = .ok (.aload 4, 2) := by decide +kernel
theorem dX6_drive_35 : decode cX6_drive 35 = .ok (.iload_n 2, 1) := by decide +kernel
theorem dX6_drive_36 : decode cX6_drive 36 = .ok (.iload_n 3, 1) := by decide +kernel
theorem dX6_drive_37 : decode cX6_drive 37 = .ok (.invokevirtual 165, 3) := by decide +kernel
theorem dX6_drive_40 : decode cX6_drive 40 = .ok (.aload 4, 2) := by decide +kernel
theorem dX6_drive_42 : decode cX6_drive 42 = .ok (.getfield 169, 3) := by decide +kernel
theorem dX6_drive_45 : decode cX6_drive 45 = .ok (.iload_n 2, 1) := by decide +kernel
theorem dX6_drive_46 : decode cX6_drive 46 = .ok (.iaload, 1) := by decide +kernel
theorem dX6_drive_47 : decode cX6_drive 47 = .ok (.ireturn, 1) := by decide +kernel
theorem dX6_night_0 : decode cX6_night 0 = .ok (.aload_n 0, 1) := by decide +kernel
theorem dX6_night_1 : decode cX6_night 1 = .ok (.getfield 74, 3) := by decide +kernel
theorem dX6_night_4 : decode cX6_night 4 = .ok (.getfield 103, 3) := by decide +kernel
theorem dX6_night_7 : decode cX6_night 7 = .ok (.sipush 999, 3) := by decide +kernel
theorem dX6_night_10 : decode cX6_night 10 = .ok (.if_icmp .lt 6, 3) := by decide +kernel
theorem dX6_night_13 : decode cX6_night 13 = .ok (.bipush (-3), 2) := by decide +kernel
theorem dX6_night_15 : decode cX6_night 15 = .ok (.ireturn, 1) := by decide +kernel
theorem dX6_night_16 : decode cX6_night 16 = .ok (.iconst 0, 1) := by decide +kernel
theorem dX6_night_17 : decode cX6_night 17 = .ok (.istore_n 1, 1) := by decide +kernel
theorem dX6_night_18 : decode cX6_night 18 = .ok (.iload_n 1, 1) := by decide +kernel
theorem dX6_night_19 : decode cX6_night 19 = .ok (.aload_n 0, 1) := by decide +kernel
theorem dX6_night_20 : decode cX6_night 20 = .ok (.getfield 116, 3) := by decide +kernel
theorem dX6_night_23 : decode cX6_night 23 = .ok (.if_icmp .ge 27, 3) := by decide +kernel
theorem dX6_night_26 : decode cX6_night 26 = .ok (.iload_n 1, 1) := by decide +kernel
theorem dX6_night_27 : decode cX6_night 27 = .ok (.iconst 5, 1) := by decide +kernel
theorem dX6_night_28 : decode cX6_night 28 = .ok (.if_icmp .ge 22, 3) := by decide +kernel
theorem dX6_night_31 : decode cX6_night 31 = .ok (.aload_n 0, 1) := by decide +kernel
theorem dX6_night_32 : decode cX6_night 32 = .ok (.getfield 74, 3) := by decide +kernel
theorem dX6_night_35 : decode cX6_night 35 = .ok (.aload_n 0, 1) := by decide +kernel
theorem dX6_night_36 : decode cX6_night 36 = .ok (.getfield 24, 3) := by decide +kernel
theorem dX6_night_39 : decode cX6_night 39 = .ok (.iload_n 1, 1) := by decide +kernel
theorem dX6_night_40 : decode cX6_night 40 = .ok (.aaload, 1) := by decide +kernel
theorem dX6_night_41 : decode cX6_night 41 = .ok (.invokevirtual 172, 3) := by decide +kernel
theorem dX6_night_44 : decode cX6_night 44 = .ok (.iinc 1 1, 3) := by decide +kernel
theorem dX6_night_47 : decode cX6_night 47 = .ok (.goto (-29), 3) := by decide +kernel
theorem dX6_night_50 : decode cX6_night 50 = .ok (.aload_n 0, 1) := by decide +kernel
theorem dX6_night_51 : decode cX6_night 51 = .ok (.getfield 74, 3) := by decide +kernel
theorem dX6_night_54 : decode cX6_night 54 = .ok (.dup, 1) := by decide +kernel
theorem dX6_night_55 : decode cX6_night 55 = .ok (.getfield 103, 3) := by decide +kernel
theorem dX6_night_58 : decode cX6_night 58 = .ok (.iconst 1, 1) := by decide +kernel
theorem dX6_night_59 : decode cX6_night 59 = .ok (.iadd, 1) := by decide +kernel
theorem dX6_night_60 : decode cX6_night 60 = .ok (.putfield 103, 3) := by decide +kernel
theorem dX6_night_63 : decode cX6_night 63 = .ok (.aload_n 0, 1) := by decide +kernel
theorem dX6_night_64 : decode cX6_night 64 = .ok (.invokevirtual 176, 3) := by decide +kernel
theorem dX6_night_67 : decode cX6_night 67 = .ok (.ireturn, 1) := by decide +kernel
theorem dX6_readyPupils_0 : decode cX6_readyPupils 0 = .ok (.iconst 0, 1) := by decide +kernel
theorem dX6_readyPupils_1 : decode cX6_readyPupils 1 = .ok (.istore_n 1, 1) := by decide +kernel
theorem dX6_readyPupils_2 : decode cX6_readyPupils 2 = .ok (.iconst 0, 1) := by decide +kernel
theorem dX6_readyPupils_3 : decode cX6_readyPupils 3 = .ok (.istore_n 2, 1) := by decide +kernel
theorem dX6_readyPupils_4 : decode cX6_readyPupils 4 = .ok (.iload_n 2, 1) := by decide +kernel
theorem dX6_readyPupils_5 : decode cX6_readyPupils 5 = .ok (.aload_n 0, 1) := by decide +kernel
theorem dX6_readyPupils_6 : decode cX6_readyPupils 6 = .ok (.getfield 116, 3) := by decide +kernel
theorem dX6_readyPupils_9 : decode cX6_readyPupils 9 = .ok (.if_icmp .ge 33, 3) := by decide +kernel
theorem dX6_readyPupils_12 : decode cX6_readyPupils 12 = .ok (.iload_n 2, 1) := by decide +kernel
theorem dX6_readyPupils_13 : decode cX6_readyPupils 13 = .ok (.iconst 5, 1) := by decide +kernel
theorem dX6_readyPupils_14 : decode cX6_readyPupils 14 = .ok (.if_icmp .ge 28, 3) := by decide +kernel
theorem dX6_readyPupils_17 : decode cX6_readyPupils 17 = .ok (.aload_n 0, 1) := by decide +kernel
theorem dX6_readyPupils_18 : decode cX6_readyPupils 18 = .ok (.getfield 74, 3) := by decide +kernel
theorem dX6_readyPupils_21 : decode cX6_readyPupils 21 = .ok (.aload_n 0, 1) := by decide +kernel
theorem dX6_readyPupils_22 : decode cX6_readyPupils 22 = .ok (.getfield 24, 3) := by decide +kernel
theorem dX6_readyPupils_25 : decode cX6_readyPupils 25 = .ok (.iload_n 2, 1) := by decide +kernel
theorem dX6_readyPupils_26 : decode cX6_readyPupils 26 = .ok (.aaload, 1) := by decide +kernel
theorem dX6_readyPupils_27 : decode cX6_readyPupils 27 = .ok (.invokevirtual 123, 3) := by decide +kernel
theorem dX6_readyPupils_30 : decode cX6_readyPupils 30 = .ok (.ifCond .eq 6, 3) := by decide +kernel
theorem dX6_readyPupils_33 : decode cX6_readyPupils 33 = .ok (.iinc 1 1, 3) := by decide +kernel
theorem dX6_readyPupils_36 : decode cX6_readyPupils 36 = .ok (.iinc 2 1, 3) := by decide +kernel
theorem dX6_readyPupils_39 : decode cX6_readyPupils 39 = .ok (.goto (-35), 3) := by decide +kernel
theorem dX6_readyPupils_42 : decode cX6_readyPupils 42 = .ok (.iload_n 1, 1) := by decide +kernel
theorem dX6_readyPupils_43 : decode cX6_readyPupils 43 = .ok (.ireturn, 1) := by decide +kernel
theorem dX6_best_0 : decode cX6_best 0 = .ok (.aload_n 0, 1) := by decide +kernel
theorem dX6_best_1 : decode cX6_best 1 = .ok (.iload_n 1, 1) := by decide +kernel
theorem dX6_best_2 : decode cX6_best 2 = .ok (.invokevirtual 96, 3) := by decide +kernel
theorem dX6_best_5 : decode cX6_best 5 = .ok (.astore_n 3, 1) := by decide +kernel
theorem dX6_best_6 : decode cX6_best 6 = .ok (.aload_n 3, 1) := by decide +kernel
theorem dX6_best_7 : decode cX6_best 7 = .ok (.ifnull 12, 3) := by decide +kernel
theorem dX6_best_10 : decode cX6_best 10 = .ok (.iload_n 2, 1) := by decide +kernel
theorem dX6_best_11 : decode cX6_best 11 = .ok (.ifCond .lt 8, 3) := by decide +kernel
theorem dX6_best_14 : decode cX6_best 14 = .ok (.iload_n 2, 1) := by decide +kernel
theorem dX6_best_15 : decode cX6_best 15 = .ok (.iconst 1, 1) := by decide +kernel
theorem dX6_best_16 : decode cX6_best 16 = .ok (.if_icmp .le 6, 3) := by decide +kernel
theorem dX6_best_19 : decode cX6_best 19 = .ok (.bipush (-2), 2) := by decide +kernel
theorem dX6_best_21 : decode cX6_best 21 = .ok (.ireturn, 1) := by decide +kernel
theorem dX6_best_22 : decode cX6_best 22 = .ok (.aload_n 0, 1) := by decide +kernel
theorem dX6_best_23 : decode cX6_best 23 = .ok (.getfield 84, 3) := by decide +kernel
theorem dX6_best_26 : decode cX6_best 26 = .ok (.aload_n 0, 1) := by decide +kernel
theorem dX6_best_27 : decode cX6_best 27 = .ok (.getfield 74, 3) := by decide +kernel
theorem dX6_best_30 : decode cX6_best 30 = .ok (.aload_n 3, 1) := by decide +kernel
theorem dX6_best_31 : decode cX6_best 31 = .ok (.iload_n 2, 1) := by decide +kernel
theorem dX6_best_32 : decode cX6_best 32 = .ok (.ifCond .ne 7, 3) := by decide +kernel
theorem dX6_best_35 : decode cX6_best 35 = .ok (.iconst 1, 1) := by decide +kernel
theorem dX6_best_36 : decode cX6_best 36 = .ok (.goto 4, 3) := by decide +kernel
theorem dX6_best_39 : decode cX6_best 39 = .ok (.iconst 0, 1) := by decide +kernel
theorem dX6_best_40 : decode cX6_best 40 = .ok (.invokevirtual 179, 3) := by decide +kernel
theorem dX6_best_43 : decode cX6_best 43 = .ok (.ireturn, 1) := by decide +kernel
theorem dX6_hours_0 : decode cX6_hours 0 = .ok (.aload_n 0, 1) := by decide +kernel
theorem dX6_hours_1 : decode cX6_hours 1 = .ok (.iload_n 1, 1) := by decide +kernel
theorem dX6_hours_2 : decode cX6_hours 2 = .ok (.invokevirtual 96, 3) := by decide +kernel
theorem dX6_hours_5 : decode cX6_hours 5 = .ok (.astore 5, 2) := by decide +kernel
theorem dX6_hours_7 : decode cX6_hours 7 = .ok (.aload 5, 2) := by decide +kernel
theorem dX6_hours_9 : decode cX6_hours 9 = .ok (.ifnull 30, 3) := by decide +kernel
theorem dX6_hours_12 : decode cX6_hours 12 = .ok (.iload_n 2, 1) := by decide +kernel
theorem dX6_hours_13 : decode cX6_hours 13 = .ok (.ifCond .lt 26, 3) := by decide +kernel
theorem dX6_hours_16 : decode cX6_hours 16 = .ok (.iload_n 2, 1) := by decide +kernel
theorem dX6_hours_17 : decode cX6_hours 17 = .ok (.iconst 3, 1) := by decide +kernel
theorem dX6_hours_18 : decode cX6_hours 18 = .ok (.if_icmp .gt 21, 3) := by decide +kernel
theorem dX6_hours_21 : decode cX6_hours 21 = .ok (.iload_n 3, 1) := by decide +kernel
theorem dX6_hours_22 : decode cX6_hours 22 = .ok (.invokestatic 162, 3) := by decide +kernel
theorem dX6_hours_25 : decode cX6_hours 25 = .ok (.ifCond .eq 14, 3) := by decide +kernel
theorem dX6_hours_28 : decode cX6_hours 28 = .ok (.iload 4, 2) := by decide +kernel
theorem dX6_hours_30 : decode cX6_hours 30 = .ok (.ifCond .lt 9, 3) := by decide +kernel
theorem dX6_hours_33 : decode cX6_hours 33 = .ok (.iload 4, 2) := by decide +kernel
theorem dX6_hours_35 : decode cX6_hours 35 = .ok (.iconst 2, 1) := by decide +kernel
theorem dX6_hours_36 : decode cX6_hours 36 = .ok (.if_icmp .le 6, 3) := by decide +kernel
theorem dX6_hours_39 : decode cX6_hours 39 = .ok (.bipush (-2), 2) := by decide +kernel
theorem dX6_hours_41 : decode cX6_hours 41 = .ok (.ireturn, 1) := by decide +kernel
theorem dX6_hours_42 : decode cX6_hours 42 = .ok (.aload_n 0, 1) := by decide +kernel
theorem dX6_hours_43 : decode cX6_hours 43 = .ok (.getfield 84, 3) := by decide +kernel
theorem dX6_hours_46 : decode cX6_hours 46 = .ok (.aload_n 0, 1) := by decide +kernel
theorem dX6_hours_47 : decode cX6_hours 47 = .ok (.getfield 74, 3) := by decide +kernel
theorem dX6_hours_50 : decode cX6_hours 50 = .ok (.aload 5, 2) := by decide +kernel
theorem dX6_hours_52 : decode cX6_hours 52 = .ok (.invokevirtual 183, 3) := by decide +kernel
theorem dX6_hours_55 : decode cX6_hours 55 = .ok (.aload_n 0, 1) := by decide +kernel
theorem dX6_hours_56 : decode cX6_hours 56 = .ok (.getfield 84, 3) := by decide +kernel
theorem dX6_hours_59 : decode cX6_hours 59 = .ok (.iconst 0, 1) := by decide +kernel
theorem dX6_hours_60 : decode cX6_hours 60 = .ok (.iload_n 2, 1) := by decide +kernel
theorem dX6_hours_61 : decode cX6_hours 61 = .ok (.iload_n 3, 1) := by decide +kernel
theorem dX6_hours_62 : decode cX6_hours 62 = .ok (.iconst 0, 1) := by decide +kernel
theorem dX6_hours_63 : decode cX6_hours 63 = .ok (.invokevirtual 187, 3) := by decide +kernel
theorem dX6_hours_66 : decode cX6_hours 66 = .ok (.iload 4, 2) := by decide +kernel
theorem dX6_hours_68 : decode cX6_hours 68 = .ok (.ifCond .ne 11, 3) := by decide +kernel
theorem dX6_hours_71 : decode cX6_hours 71 = .ok (.aload_n 0, 1) := by decide +kernel
theorem dX6_hours_72 : decode cX6_hours 72 = .ok (.getfield 84, 3) := by decide +kernel
theorem dX6_hours_75 : decode cX6_hours 75 = .ok (.getfield 191, 3) := by decide +kernel
theorem dX6_hours_78 : decode cX6_hours 78 = .ok (.ireturn, 1) := by decide +kernel
theorem dX6_hours_79 : decode cX6_hours 79 = .ok (.iload 4, 2) := by decide +kernel
theorem dX6_hours_81 : decode cX6_hours 81 = .ok (.iconst 1, 1) := by decide +kernel
theorem dX6_hours_82 : decode cX6_hours 82 = .ok (.if_icmp .ne 13, 3) := by decide +kernel
theorem dX6_hours_85 : decode cX6_hours 85 = .ok (.aload_n 0, 1) := by decide +kernel
theorem dX6_hours_86 : decode cX6_hours 86 = .ok (.getfield 84, 3) := by decide +kernel
theorem dX6_hours_89 : decode cX6_hours 89 = .ok (.getfield 194, 3) := by decide +kernel
theorem dX6_hours_92 : decode cX6_hours 92 = .ok (.goto 10, 3) := by decide +kernel
theorem dX6_hours_95 : decode cX6_hours 95 = .ok (.aload_n 0, 1) := by decide +kernel
theorem dX6_hours_96 : decode cX6_hours 96 = .ok (.getfield 84, 3) := by decide +kernel
theorem dX6_hours_99 : decode cX6_hours 99 = .ok (.getfield 197, 3) := by decide +kernel
theorem dX6_hours_102 : decode cX6_hours 102 = .ok (.ireturn, 1) := by decide +kernel
theorem dX6_takes_0 : decode cX6_takes 0 = .ok (.aload_n 0, 1) := by decide +kernel
theorem dX6_takes_1 : decode cX6_takes 1 = .ok (.iload_n 1, 1) := by decide +kernel
theorem dX6_takes_2 : decode cX6_takes 2 = .ok (.invokevirtual 96, 3) := by decide +kernel
theorem dX6_takes_5 : decode cX6_takes 5 = .ok (.astore 4, 2) := by decide +kernel
theorem dX6_takes_7 : decode cX6_takes 7 = .ok (.aload 4, 2) := by decide +kernel
theorem dX6_takes_9 : decode cX6_takes 9 = .ok (.ifnull 21, 3) := by decide +kernel
theorem dX6_takes_12 : decode cX6_takes 12 = .ok (.iload_n 2, 1) := by decide +kernel
theorem dX6_takes_13 : decode cX6_takes 13 = .ok (.invokestatic 162, 3) := by decide +kernel
theorem dX6_takes_16 : decode cX6_takes 16 = .ok (.ifCond .eq 14, 3) := by decide +kernel
theorem dX6_takes_19 : decode cX6_takes 19 = .ok (.iload_n 3, 1) := by decide +kernel
theorem dX6_takes_20 : decode cX6_takes 20 = .ok (.iconst 1, 1) := by decide +kernel
theorem dX6_takes_21 : decode cX6_takes 21 = .ok (.if_icmp .lt 9, 3) := by decide +kernel
theorem dX6_takes_24 : decode cX6_takes 24 = .ok (.iload_n 3, 1) := by decide +kernel
theorem dX6_takes_25 : decode cX6_takes 25 = .ok (.bipush 9, 2) := by decide +kernel
theorem dX6_takes_27 : decode cX6_takes 27 = .ok (.if_icmp .le 6, 3) := by decide +kernel
theorem dX6_takes_30 : decode cX6_takes 30 = .ok (.bipush (-2), 2) := by decide +kernel
theorem dX6_takes_32 : decode cX6_takes 32 = .ok (.ireturn, 1) := by decide +kernel
theorem dX6_takes_33 : decode cX6_takes 33 = .ok (.aload_n 0, 1) := by decide +kernel
theorem dX6_takes_34 : decode cX6_takes 34 = .ok (.getfield 84, 3) := by decide +kernel
theorem dX6_takes_37 : decode cX6_takes 37 = .ok (.aload_n 0, 1) := by decide +kernel
theorem dX6_takes_38 : decode cX6_takes 38 = .ok (.getfield 74, 3) := by decide +kernel
theorem dX6_takes_41 : decode cX6_takes 41 = .ok (.aload 4, 2) := by decide +kernel
theorem dX6_takes_43 : decode cX6_takes 43 = .ok (.iload_n 2, 1) := by decide +kernel
theorem dX6_takes_44 : decode cX6_takes 44 = .ok (.iload_n 3, 1) := by decide +kernel
theorem dX6_takes_45 : decode cX6_takes 45 = .ok (.invokevirtual 200, 3) := by decide +kernel
theorem dX6_takes_48 : decode cX6_takes 48 = .ok (.ireturn, 1) := by decide +kernel
theorem dX6_late_0 : decode cX6_late 0 = .ok (.aload_n 0, 1) := by decide +kernel
theorem dX6_late_1 : decode cX6_late 1 = .ok (.iload_n 1, 1) := by decide +kernel
theorem dX6_late_2 : decode cX6_late 2 = .ok (.invokevirtual 96, 3) := by decide +kernel
theorem dX6_late_5 : decode cX6_late 5 = .ok (.astore_n 3, 1) := by decide +kernel
theorem dX6_late_6 : decode cX6_late 6 = .ok (.aload_n 3, 1) := by decide +kernel
theorem dX6_late_7 : decode cX6_late 7 = .ok (.ifnull 10, 3) := by decide +kernel
theorem dX6_late_10 : decode cX6_late 10 = .ok (.iload_n 2, 1) := by decide +kernel
theorem dX6_late_11 : decode cX6_late 11 = .ok (.invokestatic 106, 3) := by decide +kernel
theorem dX6_late_14 : decode cX6_late 14 = .ok (.ifCond .ne 6, 3) := by decide +kernel
theorem dX6_late_17 : decode cX6_late 17 = .ok (.bipush (-2), 2) := by decide +kernel
theorem dX6_late_19 : decode cX6_late 19 = .ok (.ireturn, 1) := by decide +kernel
theorem dX6_late_20 : decode cX6_late 20 = .ok (.aload_n 0, 1) := by decide +kernel
theorem dX6_late_21 : decode cX6_late 21 = .ok (.getfield 84, 3) := by decide +kernel
theorem dX6_late_24 : decode cX6_late 24 = .ok (.aload_n 0, 1) := by decide +kernel
theorem dX6_late_25 : decode cX6_late 25 = .ok (.getfield 74, 3) := by decide +kernel
theorem dX6_late_28 : decode cX6_late 28 = .ok (.aload_n 3, 1) := by decide +kernel
theorem dX6_late_29 : decode cX6_late 29 = .ok (.iload_n 2, 1) := by decide +kernel
theorem dX6_late_30 : decode cX6_late 30 = .ok (.invokevirtual 204, 3) := by decide +kernel
theorem dX6_late_33 : decode cX6_late 33 = .ok (.ireturn, 1) := by decide +kernel
theorem dX6_gap_0 : decode cX6_gap 0 = .ok (.aload_n 0, 1) := by decide +kernel
theorem dX6_gap_1 : decode cX6_gap 1 = .ok (.iload_n 1, 1) := by decide +kernel
theorem dX6_gap_2 : decode cX6_gap 2 = .ok (.invokevirtual 96, 3) := by decide +kernel
theorem dX6_gap_5 : decode cX6_gap 5 = .ok (.astore_n 3, 1) := by decide +kernel
theorem dX6_gap_6 : decode cX6_gap 6 = .ok (.aload_n 3, 1) := by decide +kernel
theorem dX6_gap_7 : decode cX6_gap 7 = .ok (.ifnull 12, 3) := by decide +kernel
theorem dX6_gap_10 : decode cX6_gap 10 = .ok (.iload_n 2, 1) := by decide +kernel
theorem dX6_gap_11 : decode cX6_gap 11 = .ok (.ifCond .lt 8, 3) := by decide +kernel
theorem dX6_gap_14 : decode cX6_gap 14 = .ok (.iload_n 2, 1) := by decide +kernel
theorem dX6_gap_15 : decode cX6_gap 15 = .ok (.iconst 1, 1) := by decide +kernel
theorem dX6_gap_16 : decode cX6_gap 16 = .ok (.if_icmp .le 7, 3) := by decide +kernel
theorem dX6_gap_19 : decode cX6_gap 19 = .ok (.sipush (-1000), 3) := by decide +kernel
theorem dX6_gap_22 : decode cX6_gap 22 = .ok (.ireturn, 1) := by decide +kernel
theorem dX6_gap_23 : decode cX6_gap 23 = .ok (.aload_n 0, 1) := by decide +kernel
theorem dX6_gap_24 : decode cX6_gap 24 = .ok (.getfield 74, 3) := by decide +kernel
theorem dX6_gap_27 : decode cX6_gap 27 = .ok (.aload_n 3, 1) := by decide +kernel
theorem dX6_gap_28 : decode cX6_gap 28 = .ok (.invokevirtual 208, 3) := by decide +kernel
theorem dX6_gap_31 : decode cX6_gap 31 = .ok (.istore 4, 2) := by decide +kernel
theorem dX6_gap_33 : decode cX6_gap 33 = .ok (.iload_n 2, 1) := by decide +kernel
theorem dX6_gap_34 : decode cX6_gap 34 = .ok (.ifCond .ne 8, 3) := by decide +kernel
theorem dX6_gap_37 : decode cX6_gap 37 = .ok (.iload 4, 2) := by decide +kernel
theorem dX6_gap_39 : decode cX6_gap 39 = .ok (.goto 13, 3) := by decide +kernel
theorem dX6_gap_42 : decode cX6_gap 42 = .ok (.aload_n 0, 1) := by decide +kernel
theorem dX6_gap_43 : decode cX6_gap 43 = .ok (.getfield 74, 3) := by decide +kernel
theorem dX6_gap_46 : decode cX6_gap 46 = .ok (.aload_n 3, 1) := by decide +kernel
theorem dX6_gap_47 : decode cX6_gap 47 = .ok (.iload 4, 2) := by decide +kernel
theorem dX6_gap_49 : decode cX6_gap 49 = .ok (.invokevirtual 131, 3) := by decide +kernel
theorem dX6_gap_52 : decode cX6_gap 52 = .ok (.ireturn, 1) := by decide +kernel
theorem dX6_faded_0 : decode cX6_faded 0 = .ok (.aload_n 0, 1) := by decide +kernel
theorem dX6_faded_1 : decode cX6_faded 1 = .ok (.iload_n 1, 1) := by decide +kernel
theorem dX6_faded_2 : decode cX6_faded 2 = .ok (.invokevirtual 96, 3) := by decide +kernel
theorem dX6_faded_5 : decode cX6_faded 5 = .ok (.astore_n 3, 1) := by decide +kernel
theorem dX6_faded_6 : decode cX6_faded 6 = .ok (.aload_n 3, 1) := by decide +kernel
theorem dX6_faded_7 : decode cX6_faded 7 = .ok (.ifnull 13, 3) := by decide +kernel
theorem dX6_faded_10 : decode cX6_faded 10 = .ok (.iload_n 2, 1) := by decide +kernel
theorem dX6_faded_11 : decode cX6_faded 11 = .ok (.ifCond .lt 9, 3) := by decide +kernel
theorem dX6_faded_14 : decode cX6_faded 14 = .ok (.iload_n 2, 1) := by decide +kernel
theorem dX6_faded_15 : decode cX6_faded 15 = .ok (.bipush 40, 2) := by decide +kernel
theorem dX6_faded_17 : decode cX6_faded 17 = .ok (.if_icmp .le 6, 3) := by decide +kernel
theorem dX6_faded_20 : decode cX6_faded 20 = .ok (.bipush (-2), 2) := by decide +kernel
theorem dX6_faded_22 : decode cX6_faded 22 = .ok (.ireturn, 1) := by decide +kernel
theorem dX6_faded_23 : decode cX6_faded 23 = .ok (.aload_n 0, 1) := by decide +kernel
theorem dX6_faded_24 : decode cX6_faded 24 = .ok (.getfield 84, 3) := by decide +kernel
theorem dX6_faded_27 : decode cX6_faded 27 = .ok (.aload_n 0, 1) := by decide +kernel
theorem dX6_faded_28 : decode cX6_faded 28 = .ok (.getfield 74, 3) := by decide +kernel
theorem dX6_faded_31 : decode cX6_faded 31 = .ok (.aload_n 3, 1) := by decide +kernel
theorem dX6_faded_32 : decode cX6_faded 32 = .ok (.iload_n 2, 1) := by decide +kernel
theorem dX6_faded_33 : decode cX6_faded 33 = .ok (.invokevirtual 211, 3) := by decide +kernel
theorem dX6_faded_36 : decode cX6_faded 36 = .ok (.ireturn, 1) := by decide +kernel
section SIM
variable {p : Program} {l : Launch} {e : Env} {R : Room} {s : State} {m : MethodId} {args : Array Value} {below : List Frame} {meth : Method} {c : Code} {D : va_G} {cA : Nat → ClassId} {ad : Nat → Nat} {bs n0 z0 d : Nat} {H0 : Heap} {rv : Option Value} {hf : aM} {E : Nat → List Value → aM → Option Value → aM → Prop} {X : aXt × Value}

set_option maxHeartbeats 4000000 in
set_option maxRecDepth 20000 in
theorem sm_X5_forgets (hC : aC p s m args c cX5_forgets 4 RX5 D cA ad bs n0 H0 X) (hF : ∀ ml, ml ≤ 41 → aFit R d ml) (hRm : 16 ≤ R.frames ∧ 1000 ≤ R.locals) (hE : aCalls l D cA ad bs X d E) (hr : meth.sig.returnType = (some .int)) (hlk : meth.locks = false) : aSims (fun f i => aSim p l e R s m args below meth c (aEnd below s args D cA ad bs n0 z0 rv hf) 4 D cA ad bs n0 z0 H0 (apc pc_X5_forgets) rv hf E f i) (cd_X5_forgets) 0 := by
  unfold cd_X5_forgets
  refine aSims_c (i := 0) (s_aload_n hC dX5_forgets_0 rfl rfl) ?_
  refine aSims_c (i := 1) (s_aload_n hC dX5_forgets_1 rfl rfl) ?_
  refine aSims_c (i := 2) (s_iload_n hC dX5_forgets_2 rfl rfl) ?_
  refine aSims_c (i := 3) (s_iconst hC dX5_forgets_3 rfl rfl rfl) ?_
  refine aSims_c (i := 4) (s_callV (n := 3) hC dX5_forgets_4 rfl rfl (hE 55 _ _ _ _ rfl) (hF _ (by decide)) w_538 w_535 w_537 w_19 w_107 rfl (by decide +kernel)) ?_
  refine aSims_c (i := 5) (s_aload_n hC dX5_forgets_7 rfl rfl) ?_
  refine aSims_c (i := 6) (s_get hC dX5_forgets_8 rfl rfl w_394 rfl rfl inB5 (by decide)) ?_
  refine aSims_c (i := 7) (s_iconst hC dX5_forgets_11 rfl rfl rfl) ?_
  refine aSims_c (i := 8) (s_aload_n hC dX5_forgets_12 rfl rfl) ?_
  refine aSims_c (i := 9) (s_get hC dX5_forgets_13 rfl rfl w_396 rfl rfl inB5 (by decide)) ?_
  refine aSims_c (i := 10) (s_callV (n := 2) hC dX5_forgets_16 rfl rfl (hE 40 _ _ _ _ rfl) (hF _ (by decide)) w_542 w_539 w_540 w_541 w_98 rfl (by decide +kernel)) ?_
  refine aSims_c (i := 11) (s_iconst hC dX5_forgets_19 rfl rfl rfl) ?_
  refine aSims_c (i := 12) (s_bipush hC dX5_forgets_20 rfl rfl rfl) ?_
  refine aSims_c (i := 13) (s_callSN hC dX5_forgets_22 rfl rfl (hE 109 _ _ _ _ rfl) (hF _ (by decide)) w_551 hC.2.2.2.2.2.2.2.2.1.1.2.1 w_550 w_96 (by decide +kernel)) ?_
  refine aSims_c (i := 14) (s_istore_n hC dX5_forgets_25 rfl rfl) ?_
  refine aSims_c (i := 15) (s_aload_n hC dX5_forgets_26 rfl rfl) ?_
  refine aSims_c (i := 16) (s_iload_n hC dX5_forgets_27 rfl rfl) ?_
  refine aSims_c (i := 17) (s_callV (n := 1) hC dX5_forgets_28 rfl rfl (hE 7 _ _ _ _ rfl) (hF _ (by decide)) w_588 w_585 w_586 w_587 w_99 rfl (by decide +kernel)) ?_
  refine aSims_c (i := 18) (s_iconst hC dX5_forgets_31 rfl rfl rfl) ?_
  refine aSims_c (i := 19) (s_bipush hC dX5_forgets_32 rfl rfl rfl) ?_
  refine aSims_c (i := 20) (s_callSN hC dX5_forgets_34 rfl rfl (hE 109 _ _ _ _ rfl) (hF _ (by decide)) w_551 hC.2.2.2.2.2.2.2.2.1.1.2.1 w_550 w_96 (by decide +kernel)) ?_
  refine aSims_c (i := 21) (s_iret hC dX5_forgets_37 rfl hr hlk nar_qI) ?_
  exact aSims_n
set_option maxHeartbeats 4000000 in
set_option maxRecDepth 20000 in
theorem sm_X5_nerve (hC : aC p s m args c cX5_nerve 3 RX5 D cA ad bs n0 H0 X) (hF : ∀ ml, ml ≤ 41 → aFit R d ml) (hRm : 16 ≤ R.frames ∧ 1000 ≤ R.locals) (hE : aCalls l D cA ad bs X d E) (hr : meth.sig.returnType = (some .int)) (hlk : meth.locks = false) : aSims (fun f i => aSim p l e R s m args below meth c (aEnd below s args D cA ad bs n0 z0 rv hf) 3 D cA ad bs n0 z0 H0 (apc pc_X5_nerve) rv hf E f i) (cd_X5_nerve) 0 := by
  unfold cd_X5_nerve
  refine aSims_c (i := 0) (s_aload_n hC dX5_nerve_0 rfl rfl) ?_
  refine aSims_c (i := 1) (s_aload_n hC dX5_nerve_1 rfl rfl) ?_
  refine aSims_c (i := 2) (s_iload_n hC dX5_nerve_2 rfl rfl) ?_
  refine aSims_c (i := 3) (s_iconst hC dX5_nerve_3 rfl rfl rfl) ?_
  refine aSims_c (i := 4) (s_callV (n := 3) hC dX5_nerve_4 rfl rfl (hE 55 _ _ _ _ rfl) (hF _ (by decide)) w_538 w_535 w_537 w_19 w_107 rfl (by decide +kernel)) ?_
  refine aSims_c (i := 5) (s_aload_n hC dX5_nerve_7 rfl rfl) ?_
  refine aSims_c (i := 6) (s_aload_n hC dX5_nerve_8 rfl rfl) ?_
  refine aSims_c (i := 7) (s_get hC dX5_nerve_9 rfl rfl w_394 rfl rfl inB5 (by decide)) ?_
  refine aSims_c (i := 8) (s_iconst hC dX5_nerve_12 rfl rfl rfl) ?_
  refine aSims_c (i := 9) (s_aload_n hC dX5_nerve_13 rfl rfl) ?_
  refine aSims_c (i := 10) (s_get hC dX5_nerve_14 rfl rfl w_396 rfl rfl inB5 (by decide)) ?_
  refine aSims_c (i := 11) (s_callV (n := 2) hC dX5_nerve_17 rfl rfl (hE 40 _ _ _ _ rfl) (hF _ (by decide)) w_542 w_539 w_540 w_541 w_98 rfl (by decide +kernel)) ?_
  refine aSims_c (i := 12) (s_bipush hC dX5_nerve_20 rfl rfl rfl) ?_
  refine aSims_c (i := 13) (s_bipush hC dX5_nerve_22 rfl rfl rfl) ?_
  refine aSims_c (i := 14) (s_callSN hC dX5_nerve_24 rfl rfl (hE 109 _ _ _ _ rfl) (hF _ (by decide)) w_551 hC.2.2.2.2.2.2.2.2.1.1.2.1 w_550 w_96 (by decide +kernel)) ?_
  refine aSims_c (i := 15) (s_callV (n := 1) hC dX5_nerve_27 rfl rfl (hE 8 _ _ _ _ rfl) (hF _ (by decide)) w_561 w_558 w_559 w_560 w_99 rfl (by decide +kernel)) ?_
  refine aSims_c (i := 16) (s_iret hC dX5_nerve_30 rfl hr hlk nar_qI) ?_
  exact aSims_n
set_option maxHeartbeats 4000000 in
set_option maxRecDepth 20000 in
theorem sm_X5_margin (hC : aC p s m args c cX5_margin 3 RX5 D cA ad bs n0 H0 X) (hF : ∀ ml, ml ≤ 41 → aFit R d ml) (hRm : 16 ≤ R.frames ∧ 1000 ≤ R.locals) (hE : aCalls l D cA ad bs X d E) (hr : meth.sig.returnType = (some .int)) (hlk : meth.locks = false) : aSims (fun f i => aSim p l e R s m args below meth c (aEnd below s args D cA ad bs n0 z0 rv hf) 3 D cA ad bs n0 z0 H0 (apc pc_X5_margin) rv hf E f i) (cd_X5_margin) 0 := by
  unfold cd_X5_margin
  refine aSims_c (i := 0) (s_aload_n hC dX5_margin_0 rfl rfl) ?_
  refine aSims_c (i := 1) (s_get hC dX5_margin_1 rfl rfl w_196 rfl rfl inB0 (by decide)) ?_
  refine aSims_c (i := 2) (s_iload_n hC dX5_margin_4 rfl rfl) ?_
  refine aSims_c (i := 3) (s_iaload hC hX0 dX5_margin_5 rfl rfl) ?_
  refine aSims_c (i := 4) (s_aload_n hC dX5_margin_6 rfl rfl) ?_
  refine aSims_c (i := 5) (s_aload_n hC dX5_margin_7 rfl rfl) ?_
  refine aSims_c (i := 6) (s_iload_n hC dX5_margin_8 rfl rfl) ?_
  refine aSims_c (i := 7) (s_callV (n := 2) hC dX5_margin_9 rfl rfl (hE 58 _ _ _ _ rfl) (hF _ (by decide)) w_534 w_531 w_532 w_533 w_107 rfl (by decide +kernel)) ?_
  refine aSims_c (i := 8) (s_iadd hC dX5_margin_12 rfl rfl) ?_
  refine aSims_c (i := 9) (s_aload_n hC dX5_margin_13 rfl rfl) ?_
  refine aSims_c (i := 10) (s_get hC dX5_margin_14 rfl rfl w_389 rfl rfl inB5 (by decide)) ?_
  refine aSims_c (i := 11) (s_iload_n hC dX5_margin_17 rfl rfl) ?_
  refine aSims_c (i := 12) (s_iaload hC hX0 dX5_margin_18 rfl rfl) ?_
  refine aSims_c (i := 13) (s_isub hC dX5_margin_19 rfl rfl) ?_
  refine aSims_c (i := 14) (s_iret hC dX5_margin_20 rfl hr hlk nar_qI) ?_
  exact aSims_n
set_option maxHeartbeats 4000000 in
set_option maxRecDepth 20000 in
theorem sm_X5_managedBy (hC : aC p s m args c cX5_managedBy 4 RX5 D cA ad bs n0 H0 X) (hF : ∀ ml, ml ≤ 41 → aFit R d ml) (hRm : 16 ≤ R.frames ∧ 1000 ≤ R.locals) (hE : aCalls l D cA ad bs X d E) (hr : meth.sig.returnType = (some .int)) (hlk : meth.locks = false) : aSims (fun f i => aSim p l e R s m args below meth c (aEnd below s args D cA ad bs n0 z0 rv hf) 4 D cA ad bs n0 z0 H0 (apc pc_X5_managedBy) rv hf E f i) (cd_X5_managedBy) 0 := by
  unfold cd_X5_managedBy
  refine aSims_c (i := 0) (s_iconst hC dX5_managedBy_0 rfl rfl rfl) ?_
  refine aSims_c (i := 1) (s_istore_n hC dX5_managedBy_1 rfl rfl) ?_
  refine aSims_c (i := 2) (s_iconst hC dX5_managedBy_2 rfl rfl rfl) ?_
  refine aSims_c (i := 3) (s_istore_n hC dX5_managedBy_3 rfl rfl) ?_
  refine aSims_c (i := 4) (s_iload_n hC dX5_managedBy_4 rfl rfl) ?_
  refine aSims_c (i := 5) (s_bipush hC dX5_managedBy_5 rfl rfl rfl) ?_
  refine aSims_c (i := 6) (s_icmp_ge hC dX5_managedBy_7 rfl rfl rfl) ?_
  refine aSims_c (i := 7) (s_aload_n hC dX5_managedBy_10 rfl rfl) ?_
  refine aSims_c (i := 8) (s_aload_n hC dX5_managedBy_11 rfl rfl) ?_
  refine aSims_c (i := 9) (s_iload_n hC dX5_managedBy_12 rfl rfl) ?_
  refine aSims_c (i := 10) (s_callV (n := 2) hC dX5_managedBy_13 rfl rfl (hE 59 _ _ _ _ rfl) (hF _ (by decide)) w_530 w_527 w_528 w_529 w_107 rfl (by decide +kernel)) ?_
  refine aSims_c (i := 11) (s_if_lt hC dX5_managedBy_16 rfl rfl rfl) ?_
  refine aSims_c (i := 12) (s_iinc hC dX5_managedBy_19 rfl rfl) ?_
  refine aSims_c (i := 13) (s_iinc hC dX5_managedBy_22 rfl rfl) ?_
  refine aSims_c (i := 14) (s_goto hC dX5_managedBy_25 rfl rfl) ?_
  refine aSims_c (i := 15) (s_iload_n hC dX5_managedBy_28 rfl rfl) ?_
  refine aSims_c (i := 16) (s_iret hC dX5_managedBy_29 rfl hr hlk nar_qI) ?_
  exact aSims_n
set_option maxHeartbeats 4000000 in
set_option maxRecDepth 20000 in
theorem sm_X5_isReady (hC : aC p s m args c cX5_isReady 3 RX5 D cA ad bs n0 H0 X) (hF : ∀ ml, ml ≤ 41 → aFit R d ml) (hRm : 16 ≤ R.frames ∧ 1000 ≤ R.locals) (hE : aCalls l D cA ad bs X d E) (hr : meth.sig.returnType = (some .boolean)) (hlk : meth.locks = false) : aSims (fun f i => aSim p l e R s m args below meth c (aEnd below s args D cA ad bs n0 z0 rv hf) 3 D cA ad bs n0 z0 H0 (apc pc_X5_isReady) rv hf E f i) (cd_X5_isReady) 0 := by
  unfold cd_X5_isReady
  refine aSims_c (i := 0) (s_iconst hC dX5_isReady_0 rfl rfl rfl) ?_
  refine aSims_c (i := 1) (s_istore_n hC dX5_isReady_1 rfl rfl) ?_
  refine aSims_c (i := 2) (s_iload_n hC dX5_isReady_2 rfl rfl) ?_
  refine aSims_c (i := 3) (s_bipush hC dX5_isReady_3 rfl rfl rfl) ?_
  refine aSims_c (i := 4) (s_icmp_ge hC dX5_isReady_5 rfl rfl rfl) ?_
  refine aSims_c (i := 5) (s_aload_n hC dX5_isReady_8 rfl rfl) ?_
  refine aSims_c (i := 6) (s_aload_n hC dX5_isReady_9 rfl rfl) ?_
  refine aSims_c (i := 7) (s_iload_n hC dX5_isReady_10 rfl rfl) ?_
  refine aSims_c (i := 8) (s_callV (n := 2) hC dX5_isReady_11 rfl rfl (hE 59 _ _ _ _ rfl) (hF _ (by decide)) w_530 w_527 w_528 w_529 w_107 rfl (by decide +kernel)) ?_
  refine aSims_c (i := 9) (s_if_ge hC dX5_isReady_14 rfl rfl rfl) ?_
  refine aSims_c (i := 10) (s_iconst hC dX5_isReady_17 rfl rfl rfl) ?_
  refine aSims_c (i := 11) (s_iret hC dX5_isReady_18 rfl hr hlk nar_qZ) ?_
  refine aSims_c (i := 12) (s_iinc hC dX5_isReady_19 rfl rfl) ?_
  refine aSims_c (i := 13) (s_goto hC dX5_isReady_22 rfl rfl) ?_
  refine aSims_c (i := 14) (s_iconst hC dX5_isReady_25 rfl rfl rfl) ?_
  refine aSims_c (i := 15) (s_iret hC dX5_isReady_26 rfl hr hlk nar_qZ) ?_
  exact aSims_n
set_option maxHeartbeats 4000000 in
set_option maxRecDepth 20000 in
theorem sm_X5_leastManaged (hC : aC p s m args c cX5_leastManaged 6 RX5 D cA ad bs n0 H0 X) (hF : ∀ ml, ml ≤ 41 → aFit R d ml) (hRm : 16 ≤ R.frames ∧ 1000 ≤ R.locals) (hE : aCalls l D cA ad bs X d E) (hr : meth.sig.returnType = (some .int)) (hlk : meth.locks = false) : aSims (fun f i => aSim p l e R s m args below meth c (aEnd below s args D cA ad bs n0 z0 rv hf) 6 D cA ad bs n0 z0 H0 (apc pc_X5_leastManaged) rv hf E f i) (cd_X5_leastManaged) 0 := by
  unfold cd_X5_leastManaged
  refine aSims_c (i := 0) (s_iconst hC dX5_leastManaged_0 rfl rfl rfl) ?_
  refine aSims_c (i := 1) (s_istore_n hC dX5_leastManaged_1 rfl rfl) ?_
  refine aSims_c (i := 2) (s_aload_n hC dX5_leastManaged_2 rfl rfl) ?_
  refine aSims_c (i := 3) (s_aload_n hC dX5_leastManaged_3 rfl rfl) ?_
  refine aSims_c (i := 4) (s_iconst hC dX5_leastManaged_4 rfl rfl rfl) ?_
  refine aSims_c (i := 5) (s_callV (n := 2) hC dX5_leastManaged_5 rfl rfl (hE 59 _ _ _ _ rfl) (hF _ (by decide)) w_530 w_527 w_528 w_529 w_107 rfl (by decide +kernel)) ?_
  refine aSims_c (i := 6) (s_istore_n hC dX5_leastManaged_8 rfl rfl) ?_
  refine aSims_c (i := 7) (s_iconst hC dX5_leastManaged_9 rfl rfl rfl) ?_
  refine aSims_c (i := 8) (s_istore hC dX5_leastManaged_10 rfl rfl) ?_
  refine aSims_c (i := 9) (s_iload hC dX5_leastManaged_12 rfl rfl) ?_
  refine aSims_c (i := 10) (s_bipush hC dX5_leastManaged_14 rfl rfl rfl) ?_
  refine aSims_c (i := 11) (s_icmp_ge hC dX5_leastManaged_16 rfl rfl rfl) ?_
  refine aSims_c (i := 12) (s_aload_n hC dX5_leastManaged_19 rfl rfl) ?_
  refine aSims_c (i := 13) (s_aload_n hC dX5_leastManaged_20 rfl rfl) ?_
  refine aSims_c (i := 14) (s_iload hC dX5_leastManaged_21 rfl rfl) ?_
  refine aSims_c (i := 15) (s_callV (n := 2) hC dX5_leastManaged_23 rfl rfl (hE 59 _ _ _ _ rfl) (hF _ (by decide)) w_530 w_527 w_528 w_529 w_107 rfl (by decide +kernel)) ?_
  refine aSims_c (i := 16) (s_istore hC dX5_leastManaged_26 rfl rfl) ?_
  refine aSims_c (i := 17) (s_iload hC dX5_leastManaged_28 rfl rfl) ?_
  refine aSims_c (i := 18) (s_iload_n hC dX5_leastManaged_30 rfl rfl) ?_
  refine aSims_c (i := 19) (s_icmp_ge hC dX5_leastManaged_31 rfl rfl rfl) ?_
  refine aSims_c (i := 20) (s_iload hC dX5_leastManaged_34 rfl rfl) ?_
  refine aSims_c (i := 21) (s_istore_n hC dX5_leastManaged_36 rfl rfl) ?_
  refine aSims_c (i := 22) (s_iload hC dX5_leastManaged_37 rfl rfl) ?_
  refine aSims_c (i := 23) (s_istore_n hC dX5_leastManaged_39 rfl rfl) ?_
  refine aSims_c (i := 24) (s_iinc hC dX5_leastManaged_40 rfl rfl) ?_
  refine aSims_c (i := 25) (s_goto hC dX5_leastManaged_43 rfl rfl) ?_
  refine aSims_c (i := 26) (s_iload_n hC dX5_leastManaged_46 rfl rfl) ?_
  refine aSims_c (i := 27) (s_iret hC dX5_leastManaged_47 rfl hr hlk nar_qI) ?_
  exact aSims_n
set_option maxHeartbeats 4000000 in
set_option maxRecDepth 20000 in
theorem sm_X5_spendHour (hC : aC p s m args c cX5_spendHour 5 RX5 D cA ad bs n0 H0 X) (hF : ∀ ml, ml ≤ 41 → aFit R d ml) (hRm : 16 ≤ R.frames ∧ 1000 ≤ R.locals) (hE : aCalls l D cA ad bs X d E) (hr : meth.sig.returnType = none) (hlk : meth.locks = false) : aSims (fun f i => aSim p l e R s m args below meth c (aEnd below s args D cA ad bs n0 z0 rv hf) 5 D cA ad bs n0 z0 H0 (apc pc_X5_spendHour) rv hf E f i) (cd_X5_spendHour) 0 := by
  unfold cd_X5_spendHour
  refine aSims_c (i := 0) (s_aload_n hC dX5_spendHour_0 rfl rfl) ?_
  refine aSims_c (i := 1) (s_aload_n hC dX5_spendHour_1 rfl rfl) ?_
  refine aSims_c (i := 2) (s_iload_n hC dX5_spendHour_2 rfl rfl) ?_
  refine aSims_c (i := 3) (s_iload_n hC dX5_spendHour_3 rfl rfl) ?_
  refine aSims_c (i := 4) (s_callV (n := 3) hC dX5_spendHour_4 rfl rfl (hE 56 _ _ _ _ rfl) (hF _ (by decide)) w_575 w_617 w_573 w_574 w_107 rfl (by decide +kernel)) ?_
  refine aSims_c (i := 5) (s_istore hC dX5_spendHour_7 rfl rfl) ?_
  refine aSims_c (i := 6) (s_iload_n hC dX5_spendHour_9 rfl rfl) ?_
  refine aSims_c (i := 7) (s_iconst hC dX5_spendHour_10 rfl rfl rfl) ?_
  refine aSims_c (i := 8) (s_icmp_eq hC dX5_spendHour_11 rfl rfl rfl) ?_
  refine aSims_c (i := 9) (s_aload_n hC dX5_spendHour_14 rfl rfl) ?_
  refine aSims_c (i := 10) (s_aload_n hC dX5_spendHour_15 rfl rfl) ?_
  refine aSims_c (i := 11) (s_iload_n hC dX5_spendHour_16 rfl rfl) ?_
  refine aSims_c (i := 12) (s_callV (n := 2) hC dX5_spendHour_17 rfl rfl (hE 59 _ _ _ _ rfl) (hF _ (by decide)) w_530 w_527 w_528 w_529 w_107 rfl (by decide +kernel)) ?_
  refine aSims_c (i := 13) (s_if_ge hC dX5_spendHour_20 rfl rfl rfl) ?_
  refine aSims_c (i := 14) (s_aload_n hC dX5_spendHour_23 rfl rfl) ?_
  refine aSims_c (i := 15) (s_sipush hC dX5_spendHour_24 rfl rfl rfl) ?_
  refine aSims_c (i := 16) (s_aload_n hC dX5_spendHour_27 rfl rfl) ?_
  refine aSims_c (i := 17) (s_get hC dX5_spendHour_28 rfl rfl w_193 rfl rfl inB0 (by decide)) ?_
  refine aSims_c (i := 18) (s_iconst hC dX5_spendHour_31 rfl rfl rfl) ?_
  refine aSims_c (i := 19) (s_iadd hC dX5_spendHour_32 rfl rfl) ?_
  refine aSims_c (i := 20) (s_min hC hRm dX5_spendHour_33 rfl rfl w_618 ⟨w_553, w_110, w_554⟩) ?_
  refine aSims_c (i := 21) (s_put hC dX5_spendHour_36 rfl rfl w_193 rfl rfl inB0 tyX0_ok nmX0 (by decide) rfl) ?_
  refine aSims_c (i := 22) (s_iload hC dX5_spendHour_39 rfl rfl) ?_
  refine aSims_c (i := 23) (s_iconst hC dX5_spendHour_41 rfl rfl rfl) ?_
  refine aSims_c (i := 24) (s_idiv hC dX5_spendHour_42 rfl rfl) ?_
  refine aSims_c (i := 25) (s_istore hC dX5_spendHour_43 rfl rfl) ?_
  refine aSims_c (i := 26) (s_aload_n hC dX5_spendHour_45 rfl rfl) ?_
  refine aSims_c (i := 27) (s_get hC dX5_spendHour_46 rfl rfl w_196 rfl rfl inB0 (by decide)) ?_
  refine aSims_c (i := 28) (s_iload_n hC dX5_spendHour_49 rfl rfl) ?_
  refine aSims_c (i := 29) (s_bipush hC dX5_spendHour_50 rfl rfl rfl) ?_
  refine aSims_c (i := 30) (s_aload_n hC dX5_spendHour_52 rfl rfl) ?_
  refine aSims_c (i := 31) (s_get hC dX5_spendHour_53 rfl rfl w_196 rfl rfl inB0 (by decide)) ?_
  refine aSims_c (i := 32) (s_iload_n hC dX5_spendHour_56 rfl rfl) ?_
  refine aSims_c (i := 33) (s_iaload hC hX0 dX5_spendHour_57 rfl rfl) ?_
  refine aSims_c (i := 34) (s_iload hC dX5_spendHour_58 rfl rfl) ?_
  refine aSims_c (i := 35) (s_iadd hC dX5_spendHour_60 rfl rfl) ?_
  refine aSims_c (i := 36) (s_min hC hRm dX5_spendHour_61 rfl rfl w_618 ⟨w_553, w_110, w_554⟩) ?_
  refine aSims_c (i := 37) (s_iastore hC dX5_spendHour_64 rfl rfl) ?_
  refine aSims_c (i := 38) (s_aload_n hC dX5_spendHour_65 rfl rfl) ?_
  refine aSims_c (i := 39) (s_bipush hC dX5_spendHour_66 rfl rfl rfl) ?_
  refine aSims_c (i := 40) (s_aload_n hC dX5_spendHour_68 rfl rfl) ?_
  refine aSims_c (i := 41) (s_get hC dX5_spendHour_69 rfl rfl w_190 rfl rfl inB0 (by decide)) ?_
  refine aSims_c (i := 42) (s_iconst hC dX5_spendHour_72 rfl rfl rfl) ?_
  refine aSims_c (i := 43) (s_iadd hC dX5_spendHour_73 rfl rfl) ?_
  refine aSims_c (i := 44) (s_min hC hRm dX5_spendHour_74 rfl rfl w_618 ⟨w_553, w_110, w_554⟩) ?_
  refine aSims_c (i := 45) (s_put hC dX5_spendHour_77 rfl rfl w_190 rfl rfl inB0 tyX0_ok nmX0 (by decide) rfl) ?_
  refine aSims_c (i := 46) (s_vret hC dX5_spendHour_80 rfl hr hlk) ?_
  exact aSims_n
set_option maxHeartbeats 4000000 in
set_option maxRecDepth 20000 in
theorem sm_X5_sleep (hC : aC p s m args c cX5_sleep 3 RX5 D cA ad bs n0 H0 X) (hF : ∀ ml, ml ≤ 41 → aFit R d ml) (hRm : 16 ≤ R.frames ∧ 1000 ≤ R.locals) (hE : aCalls l D cA ad bs X d E) (hr : meth.sig.returnType = none) (hlk : meth.locks = false) : aSims (fun f i => aSim p l e R s m args below meth c (aEnd below s args D cA ad bs n0 z0 rv hf) 3 D cA ad bs n0 z0 H0 (apc pc_X5_sleep) rv hf E f i) (cd_X5_sleep) 0 := by
  unfold cd_X5_sleep
  refine aSims_c (i := 0) (s_iconst hC dX5_sleep_0 rfl rfl rfl) ?_
  refine aSims_c (i := 1) (s_istore_n hC dX5_sleep_1 rfl rfl) ?_
  refine aSims_c (i := 2) (s_iload_n hC dX5_sleep_2 rfl rfl) ?_
  refine aSims_c (i := 3) (s_bipush hC dX5_sleep_3 rfl rfl rfl) ?_
  refine aSims_c (i := 4) (s_icmp_ge hC dX5_sleep_5 rfl rfl rfl) ?_
  refine aSims_c (i := 5) (s_aload_n hC dX5_sleep_8 rfl rfl) ?_
  refine aSims_c (i := 6) (s_get hC dX5_sleep_9 rfl rfl w_196 rfl rfl inB0 (by decide)) ?_
  refine aSims_c (i := 7) (s_iload_n hC dX5_sleep_12 rfl rfl) ?_
  refine aSims_c (i := 8) (s_iconst hC dX5_sleep_13 rfl rfl rfl) ?_
  refine aSims_c (i := 9) (s_aload_n hC dX5_sleep_14 rfl rfl) ?_
  refine aSims_c (i := 10) (s_get hC dX5_sleep_15 rfl rfl w_196 rfl rfl inB0 (by decide)) ?_
  refine aSims_c (i := 11) (s_iload_n hC dX5_sleep_18 rfl rfl) ?_
  refine aSims_c (i := 12) (s_iaload hC hX0 dX5_sleep_19 rfl rfl) ?_
  refine aSims_c (i := 13) (s_aload_n hC dX5_sleep_20 rfl rfl) ?_
  refine aSims_c (i := 14) (s_aload_n hC dX5_sleep_21 rfl rfl) ?_
  refine aSims_c (i := 15) (s_iload_n hC dX5_sleep_22 rfl rfl) ?_
  refine aSims_c (i := 16) (s_callV (n := 2) hC dX5_sleep_23 rfl rfl (hE 57 _ _ _ _ rfl) (hF _ (by decide)) w_584 w_627 w_582 w_583 w_107 rfl (by decide +kernel)) ?_
  refine aSims_c (i := 17) (s_isub hC dX5_sleep_26 rfl rfl) ?_
  refine aSims_c (i := 18) (s_max hC hRm dX5_sleep_27 rfl rfl w_628 ⟨w_556, w_110, w_557⟩) ?_
  refine aSims_c (i := 19) (s_iastore hC dX5_sleep_30 rfl rfl) ?_
  refine aSims_c (i := 20) (s_iinc hC dX5_sleep_31 rfl rfl) ?_
  refine aSims_c (i := 21) (s_goto hC dX5_sleep_34 rfl rfl) ?_
  refine aSims_c (i := 22) (s_aload_n hC dX5_sleep_37 rfl rfl) ?_
  refine aSims_c (i := 23) (s_iconst hC dX5_sleep_38 rfl rfl rfl) ?_
  refine aSims_c (i := 24) (s_put hC dX5_sleep_39 rfl rfl w_190 rfl rfl inB0 tyX0_ok nmX0 (by decide) rfl) ?_
  refine aSims_c (i := 25) (s_vret hC dX5_sleep_42 rfl hr hlk) ?_
  exact aSims_n
set_option maxHeartbeats 4000000 in
set_option maxRecDepth 20000 in
theorem sm_X6_init_0 (hC : aC p s m args c cX6_init 2 RX6 D cA ad bs n0 H0 X) (hF : ∀ ml, ml ≤ 41 → aFit R d ml) (hRm : 16 ≤ R.frames ∧ 1000 ≤ R.locals) (hE : aCalls l D cA ad bs X d E) (hr : meth.sig.returnType = none) (hlk : meth.locks = false) (hin : meth.name = "<init>") : aSims (fun f i => aSim p l e R s m args below meth c (aEnd below s args D cA ad bs n0 z0 rv hf) 2 D cA ad bs n0 z0 H0 (apc pc_X6_init) rv hf E f i) (cd_X6_init_0) 0 := by
  unfold cd_X6_init_0
  refine aSims_c (i := 0) (s_aload_n hC dX6_init_0 rfl rfl) ?_
  refine aSims_c (i := 1) (s_objinit hC hRm dX6_init_1 rfl rfl w_116 ⟨w_117, w_118⟩) ?_
  refine aSims_c (i := 2) (s_aload_n hC dX6_init_4 rfl rfl) ?_
  refine aSims_c (i := 3) (s_bipush hC dX6_init_5 rfl rfl rfl) ?_
  refine aSims_c (i := 4) (s_anewarray hC dX6_init_7 rfl rfl w_119 hC.2.2.2.2.2.2.2.2.1.1.2.2.2.2.1 rfl) ?_
  refine aSims_c (i := 5) (s_putF hC dX6_init_10 rfl rfl w_441 rfl rfl inB6 tyX6_ok nmX6 (by decide) rfl rfl hin) ?_
  refine aSims_c (i := 6) (s_aload_n hC dX6_init_13 rfl rfl) ?_
  refine aSims_c (i := 7) (s_new hC dX6_init_14 rfl rfl w_121 w_122 w_97 rfl rfl inB1 tyX1_ok okX1) ?_
  refine aSims_c (i := 8) (s_dup hC dX6_init_17 rfl rfl) ?_
  refine aSims_c (i := 9) (s_callI (n := 0) hC dX6_init_18 rfl rfl (hE 12 _ _ _ _ rfl) (hF _ (by decide)) w_125 w_123 w_124 w_97 rfl (by decide +kernel)) ?_
  refine aSims_c (i := 10) (s_putF hC dX6_init_21 rfl rfl w_443 rfl rfl inB6 tyX6_ok nmX6 (by decide) rfl rfl hin) ?_
  refine aSims_c (i := 11) (s_aload_n hC dX6_init_24 rfl rfl) ?_
  refine aSims_c (i := 12) (s_iconst hC dX6_init_25 rfl rfl rfl) ?_
  refine aSims_c (i := 13) (s_anewarray hC dX6_init_26 rfl rfl w_174 hC.2.2.2.2.2.2.2.2.1.1.2.2.2.2.2.1 rfl) ?_
  refine aSims_c (i := 14) (s_putF hC dX6_init_29 rfl rfl w_445 rfl rfl inB6 tyX6_ok nmX6 (by decide) rfl rfl hin) ?_
  refine aSims_c (i := 15) (s_aload_n hC dX6_init_32 rfl rfl) ?_
  refine aSims_c (i := 16) (s_iconst hC dX6_init_33 rfl rfl rfl) ?_
  refine aSims_c (i := 17) (s_anewarray hC dX6_init_34 rfl rfl w_174 hC.2.2.2.2.2.2.2.2.1.1.2.2.2.2.2.1 rfl) ?_
  refine aSims_c (i := 18) (s_putF hC dX6_init_37 rfl rfl w_448 rfl rfl inB6 tyX6_ok nmX6 (by decide) rfl rfl hin) ?_
  refine aSims_c (i := 19) (s_aload_n hC dX6_init_40 rfl rfl) ?_
  refine aSims_c (i := 20) (s_iconst hC dX6_init_41 rfl rfl rfl) ?_
  refine aSims_c (i := 21) (s_put hC dX6_init_42 rfl rfl w_449 rfl rfl inB6 tyX6_ok nmX6 (by decide) rfl) ?_
  refine aSims_c (i := 22) (s_aload_n hC dX6_init_45 rfl rfl) ?_
  refine aSims_c (i := 23) (s_iconst hC dX6_init_46 rfl rfl rfl) ?_
  refine aSims_c (i := 24) (s_anewarray hC dX6_init_47 rfl rfl w_176 hC.2.2.2.2.2.2.2.2.1.1.2.2.2.2.2.2.1 rfl) ?_
  refine aSims_c (i := 25) (s_putF hC dX6_init_50 rfl rfl w_451 rfl rfl inB6 tyX6_ok nmX6 (by decide) rfl rfl hin) ?_
  refine aSims_c (i := 26) (s_iconst hC dX6_init_53 rfl rfl rfl) ?_
  refine aSims_c (i := 27) (s_istore_n hC dX6_init_54 rfl rfl) ?_
  refine aSims_c (i := 28) (s_iload_n hC dX6_init_55 rfl rfl) ?_
  refine aSims_c (i := 29) (s_bipush hC dX6_init_56 rfl rfl rfl) ?_
  refine aSims_c (i := 30) (s_icmp_ge hC dX6_init_58 rfl rfl rfl) ?_
  refine aSims_c (i := 31) (s_aload_n hC dX6_init_61 rfl rfl) ?_
  refine aSims_c (i := 32) (s_get hC dX6_init_62 rfl rfl w_441 rfl rfl inB6 (by decide)) ?_
  refine aSims_c (i := 33) (s_iload_n hC dX6_init_65 rfl rfl) ?_
  refine aSims_c (i := 34) (s_new hC dX6_init_66 rfl rfl w_119 w_128 w_98 rfl rfl inB3 tyX3_ok okX3) ?_
  refine aSims_c (i := 35) (s_dup hC dX6_init_69 rfl rfl) ?_
  refine aSims_c (i := 36) (s_iload_n hC dX6_init_70 rfl rfl) ?_
  refine aSims_c (i := 37) (s_callI (n := 1) hC dX6_init_71 rfl rfl (hE 35 _ _ _ _ rfl) (hF _ (by decide)) w_131 w_178 w_130 w_98 rfl (by decide +kernel)) ?_
  refine aSims_c (i := 38) (s_aastore hC dX6_init_74 rfl rfl) ?_
  refine aSims_c (i := 39) (s_iinc hC dX6_init_75 rfl rfl) ?_
  refine aSims_c (i := 40) (s_goto hC dX6_init_78 rfl rfl) ?_
  refine aSims_c (i := 41) (s_iconst hC dX6_init_81 rfl rfl rfl) ?_
  refine aSims_c (i := 42) (s_istore_n hC dX6_init_82 rfl rfl) ?_
  refine aSims_c (i := 43) (s_iload_n hC dX6_init_83 rfl rfl) ?_
  refine aSims_c (i := 44) (s_iconst hC dX6_init_84 rfl rfl rfl) ?_
  refine aSims_c (i := 45) (s_icmp_ge hC dX6_init_85 rfl rfl rfl) ?_
  refine aSims_c (i := 46) (s_aload_n hC dX6_init_88 rfl rfl) ?_
  refine aSims_c (i := 47) (s_get hC dX6_init_89 rfl rfl w_445 rfl rfl inB6 (by decide)) ?_
  refine aSims_c (i := 48) (s_iload_n hC dX6_init_92 rfl rfl) ?_
  refine aSims_c (i := 49) (s_new hC dX6_init_93 rfl rfl w_174 w_179 w_99 rfl rfl inB0 tyX0_ok okX0) ?_
  refine aSims_c (i := 50) (s_dup hC dX6_init_96 rfl rfl) ?_
  refine aSims_c (i := 51) (s_callI (n := 0) hC dX6_init_97 rfl rfl (hE 0 _ _ _ _ rfl) (hF _ (by decide)) w_182 w_180 w_181 w_99 rfl (by decide +kernel)) ?_
  refine aSims_c (i := 52) (s_aastore hC dX6_init_100 rfl rfl) ?_
  refine aSims_c (i := 53) (s_aload_n hC dX6_init_101 rfl rfl) ?_
  refine aSims_c (i := 54) (s_get hC dX6_init_102 rfl rfl w_448 rfl rfl inB6 (by decide)) ?_
  refine aSims_c (i := 55) (s_iload_n hC dX6_init_105 rfl rfl) ?_
  refine aSims_c (i := 56) (s_new hC dX6_init_106 rfl rfl w_174 w_179 w_99 rfl rfl inB0 tyX0_ok okX0) ?_
  refine aSims_c (i := 57) (s_dup hC dX6_init_109 rfl rfl) ?_
  refine aSims_c (i := 58) (s_callI (n := 0) hC dX6_init_110 rfl rfl (hE 0 _ _ _ _ rfl) (hF _ (by decide)) w_182 w_180 w_181 w_99 rfl (by decide +kernel)) ?_
  refine aSims_c (i := 59) (s_aastore hC dX6_init_113 rfl rfl) ?_
  refine aSims_c (i := 60) (s_iinc hC dX6_init_114 rfl rfl) ?_
  refine aSims_c (i := 61) (s_goto hC dX6_init_117 rfl rfl) ?_
  refine aSims_c (i := 62) (s_iconst hC dX6_init_120 rfl rfl rfl) ?_
  refine aSims_c (i := 63) (s_istore_n hC dX6_init_121 rfl rfl) ?_
  refine aSims_c (i := 64) (s_iload_n hC dX6_init_122 rfl rfl) ?_
  refine aSims_c (i := 65) (s_iconst hC dX6_init_123 rfl rfl rfl) ?_
  refine aSims_c (i := 66) (s_icmp_ge hC dX6_init_124 rfl rfl rfl) ?_
  refine aSims_c (i := 67) (s_aload_n hC dX6_init_127 rfl rfl) ?_
  refine aSims_c (i := 68) (s_get hC dX6_init_128 rfl rfl w_451 rfl rfl inB6 (by decide)) ?_
  refine aSims_c (i := 69) (s_iload_n hC dX6_init_131 rfl rfl) ?_
  refine aSims_c (i := 70) (s_new hC dX6_init_132 rfl rfl w_176 w_210 w_100 rfl rfl inB2 tyX2_ok okX2) ?_
  refine aSims_c (i := 71) (s_dup hC dX6_init_135 rfl rfl) ?_
  refine aSims_c (i := 72) (s_callI (n := 0) hC dX6_init_136 rfl rfl (hE 30 _ _ _ _ rfl) (hF _ (by decide)) w_213 w_211 w_212 w_100 rfl (by decide +kernel)) ?_
  refine aSims_c (i := 73) (s_aastore hC dX6_init_139 rfl rfl) ?_
  refine aSims_c (i := 74) (s_iinc hC dX6_init_140 rfl rfl) ?_
  refine aSims_c (i := 75) (s_goto hC dX6_init_143 rfl rfl) ?_
  refine aSims_c (i := 76) (s_iconst hC dX6_init_146 rfl rfl rfl) ?_
  refine aSims_c (i := 77) (s_istore_n hC dX6_init_147 rfl rfl) ?_
  refine aSims_c (i := 78) (s_iload_n hC dX6_init_148 rfl rfl) ?_
  refine aSims_c (i := 79) (s_ldcS hC dX6_init_149 rfl rfl (by decide) rfl) ?_
  refine aSims_c (i := 80) (s_callT (n := 0) hC hC.2.2.2.2.2.2.2.2.2.1 dX6_init_151 rfl rfl (hE 216 _ _ _ _ rfl) (hF _ (by decide)) w_233 w_230 w_231 w_232 w_101 (by decide +kernel)) ?_
  refine aSims_c (i := 81) (s_icmp_ge hC dX6_init_154 rfl rfl rfl) ?_
  refine aSims_c (i := 82) (s_aload_n hC dX6_init_157 rfl rfl) ?_
  refine aSims_c (i := 83) (s_get hC dX6_init_158 rfl rfl w_443 rfl rfl inB6 (by decide)) ?_
  refine aSims_c (i := 84) (s_ldcS hC dX6_init_161 rfl rfl (by decide) rfl) ?_
  refine aSims_c (i := 85) (s_iload_n hC dX6_init_163 rfl rfl) ?_
  refine aSims_c (i := 86) (s_callT (n := 1) hC hC.2.2.2.2.2.2.2.2.2.1 dX6_init_164 rfl rfl (hE 218 _ _ _ _ rfl) (hF _ (by decide)) w_243 w_240 w_241 w_242 w_101 (by decide +kernel)) ?_
  refine aSims_c (i := 87) (s_callV (n := 1) hC dX6_init_167 rfl rfl (hE 13 _ _ _ _ rfl) (hF _ (by decide)) w_281 w_278 w_279 w_280 w_97 rfl (by decide +kernel)) ?_
  refine aSims_c (i := 88) (s_pop hC dX6_init_170 rfl rfl) ?_
  refine aSims_c (i := 89) (s_iinc hC dX6_init_171 rfl rfl) ?_
  refine aSims_c (i := 90) (s_goto hC dX6_init_174 rfl rfl) ?_
  refine aSims_c (i := 91) (s_aload_n hC dX6_init_177 rfl rfl) ?_
  refine aSims_c (i := 92) (s_get hC dX6_init_178 rfl rfl w_443 rfl rfl inB6 (by decide)) ?_
  refine aSims_c (i := 93) (s_aload_n hC dX6_init_181 rfl rfl) ?_
  refine aSims_c (i := 94) (s_get hC dX6_init_182 rfl rfl w_441 rfl rfl inB6 (by decide)) ?_
  refine aSims_c (i := 95) (s_iconst hC dX6_init_185 rfl rfl rfl) ?_
  refine aSims_c (i := 96) (s_aaload hC dX6_init_186 rfl rfl) ?_
  refine aSims_c (i := 97) (s_callV (n := 1) hC dX6_init_187 rfl rfl (hE 14 _ _ _ _ rfl) (hF _ (by decide)) w_285 w_282 w_283 w_284 w_97 rfl (by decide +kernel)) ?_
  refine aSims_c (i := 98) (s_pop hC dX6_init_190 rfl rfl) ?_
  refine aSims_c (i := 99) (s_aload_n hC dX6_init_191 rfl rfl) ?_
  exact aSims_n
set_option maxHeartbeats 4000000 in
set_option maxRecDepth 20000 in
theorem sm_X6_init_1 (hC : aC p s m args c cX6_init 2 RX6 D cA ad bs n0 H0 X) (hF : ∀ ml, ml ≤ 41 → aFit R d ml) (hRm : 16 ≤ R.frames ∧ 1000 ≤ R.locals) (hE : aCalls l D cA ad bs X d E) (hr : meth.sig.returnType = none) (hlk : meth.locks = false) (hin : meth.name = "<init>") : aSims (fun f i => aSim p l e R s m args below meth c (aEnd below s args D cA ad bs n0 z0 rv hf) 2 D cA ad bs n0 z0 H0 (apc pc_X6_init) rv hf E f i) (cd_X6_init_1) 100 := by
  unfold cd_X6_init_1
  refine aSims_c (i := 100) (s_iconst hC dX6_init_192 rfl rfl rfl) ?_
  refine aSims_c (i := 101) (s_put hC dX6_init_193 rfl rfl w_442 rfl rfl inB6 tyX6_ok nmX6 (by decide) rfl) ?_
  refine aSims_c (i := 102) (s_aload_n hC dX6_init_196 rfl rfl) ?_
  refine aSims_c (i := 103) (s_new hC dX6_init_197 rfl rfl w_382 w_383 w_107 rfl rfl inB5 tyX5_ok okX5) ?_
  refine aSims_c (i := 104) (s_dup hC dX6_init_200 rfl rfl) ?_
  refine aSims_c (i := 105) (s_aload_n hC dX6_init_201 rfl rfl) ?_
  refine aSims_c (i := 106) (s_get hC dX6_init_202 rfl rfl w_441 rfl rfl inB6 (by decide)) ?_
  refine aSims_c (i := 107) (s_iconst hC dX6_init_205 rfl rfl rfl) ?_
  refine aSims_c (i := 108) (s_aaload hC dX6_init_206 rfl rfl) ?_
  refine aSims_c (i := 109) (s_callI (n := 1) hC dX6_init_207 rfl rfl (hE 53 _ _ _ _ rfl) (hF _ (by decide)) w_386 w_384 w_385 w_107 rfl (by decide +kernel)) ?_
  refine aSims_c (i := 110) (s_putF hC dX6_init_210 rfl rfl w_444 rfl rfl inB6 tyX6_ok nmX6 (by decide) rfl rfl hin) ?_
  refine aSims_c (i := 111) (s_aload_n hC dX6_init_213 rfl rfl) ?_
  refine aSims_c (i := 112) (s_new hC dX6_init_214 rfl rfl w_382 w_383 w_107 rfl rfl inB5 tyX5_ok okX5) ?_
  refine aSims_c (i := 113) (s_dup hC dX6_init_217 rfl rfl) ?_
  refine aSims_c (i := 114) (s_aload_n hC dX6_init_218 rfl rfl) ?_
  refine aSims_c (i := 115) (s_get hC dX6_init_219 rfl rfl w_441 rfl rfl inB6 (by decide)) ?_
  refine aSims_c (i := 116) (s_iconst hC dX6_init_222 rfl rfl rfl) ?_
  refine aSims_c (i := 117) (s_aaload hC dX6_init_223 rfl rfl) ?_
  refine aSims_c (i := 118) (s_callI (n := 1) hC dX6_init_224 rfl rfl (hE 53 _ _ _ _ rfl) (hF _ (by decide)) w_386 w_384 w_385 w_107 rfl (by decide +kernel)) ?_
  refine aSims_c (i := 119) (s_putF hC dX6_init_227 rfl rfl w_447 rfl rfl inB6 tyX6_ok nmX6 (by decide) rfl rfl hin) ?_
  refine aSims_c (i := 120) (s_aload_n hC dX6_init_230 rfl rfl) ?_
  refine aSims_c (i := 121) (s_new hC dX6_init_231 rfl rfl w_407 w_408 w_108 rfl rfl inB4 tyX4_ok okX4) ?_
  refine aSims_c (i := 122) (s_dup hC dX6_init_234 rfl rfl) ?_
  refine aSims_c (i := 123) (s_aload_n hC dX6_init_235 rfl rfl) ?_
  refine aSims_c (i := 124) (s_get hC dX6_init_236 rfl rfl w_441 rfl rfl inB6 (by decide)) ?_
  refine aSims_c (i := 125) (s_iconst hC dX6_init_239 rfl rfl rfl) ?_
  refine aSims_c (i := 126) (s_aaload hC dX6_init_240 rfl rfl) ?_
  refine aSims_c (i := 127) (s_callI (n := 1) hC dX6_init_241 rfl rfl (hE 43 _ _ _ _ rfl) (hF _ (by decide)) w_411 w_409 w_410 w_108 rfl (by decide +kernel)) ?_
  refine aSims_c (i := 128) (s_putF hC dX6_init_244 rfl rfl w_450 rfl rfl inB6 tyX6_ok nmX6 (by decide) rfl rfl hin) ?_
  refine aSims_c (i := 129) (s_vret hC dX6_init_247 rfl hr hlk) ?_
  exact aSims_n
theorem sm_X6_init (hC : aC p s m args c cX6_init 2 RX6 D cA ad bs n0 H0 X) (hF : ∀ ml, ml ≤ 41 → aFit R d ml) (hRm : 16 ≤ R.frames ∧ 1000 ≤ R.locals) (hE : aCalls l D cA ad bs X d E) (hr : meth.sig.returnType = none) (hlk : meth.locks = false) (hin : meth.name = "<init>") : aSims (fun f i => aSim p l e R s m args below meth c (aEnd below s args D cA ad bs n0 z0 rv hf) 2 D cA ad bs n0 z0 H0 (apc pc_X6_init) rv hf E f i) cd_X6_init 0 := aSims_a (sm_X6_init_0 hC hF hRm hE hr hlk hin) (sm_X6_init_1 hC hF hRm hE hr hlk hin)
set_option maxHeartbeats 4000000 in
set_option maxRecDepth 20000 in
theorem sm_X6_set (hC : aC p s m args c cX6_set 5 RX6 D cA ad bs n0 H0 X) (hF : ∀ ml, ml ≤ 41 → aFit R d ml) (hRm : 16 ≤ R.frames ∧ 1000 ≤ R.locals) (hE : aCalls l D cA ad bs X d E) (hr : meth.sig.returnType = (some .int)) (hlk : meth.locks = false) : aSims (fun f i => aSim p l e R s m args below meth c (aEnd below s args D cA ad bs n0 z0 rv hf) 5 D cA ad bs n0 z0 H0 (apc pc_X6_set) rv hf E f i) (cd_X6_set) 0 := by
  unfold cd_X6_set
  refine aSims_c (i := 0) (s_iload_n hC dX6_set_0 rfl rfl) ?_
  refine aSims_c (i := 1) (s_if_ne hC dX6_set_1 rfl rfl rfl) ?_
  refine aSims_c (i := 2) (s_aload_n hC dX6_set_4 rfl rfl) ?_
  refine aSims_c (i := 3) (s_iload_n hC dX6_set_5 rfl rfl) ?_
  refine aSims_c (i := 4) (s_callV (n := 1) hC dX6_set_6 rfl rfl (hE 67 _ _ _ _ rfl) (hF _ (by decide)) w_482 w_479 w_481 w_15 w_96 rfl (by decide +kernel)) ?_
  refine aSims_c (i := 5) (s_iret hC dX6_set_9 rfl hr hlk nar_qI) ?_
  refine aSims_c (i := 6) (s_iload_n hC dX6_set_10 rfl rfl) ?_
  refine aSims_c (i := 7) (s_iconst hC dX6_set_11 rfl rfl rfl) ?_
  refine aSims_c (i := 8) (s_icmp_ne hC dX6_set_12 rfl rfl rfl) ?_
  refine aSims_c (i := 9) (s_aload_n hC dX6_set_15 rfl rfl) ?_
  refine aSims_c (i := 10) (s_iload_n hC dX6_set_16 rfl rfl) ?_
  refine aSims_c (i := 11) (s_iload_n hC dX6_set_17 rfl rfl) ?_
  refine aSims_c (i := 12) (s_callV (n := 2) hC dX6_set_18 rfl rfl (hE 68 _ _ _ _ rfl) (hF _ (by decide)) w_486 w_483 w_485 w_16 w_96 rfl (by decide +kernel)) ?_
  refine aSims_c (i := 13) (s_iret hC dX6_set_21 rfl hr hlk nar_qI) ?_
  refine aSims_c (i := 14) (s_aload_n hC dX6_set_22 rfl rfl) ?_
  refine aSims_c (i := 15) (s_iload_n hC dX6_set_23 rfl rfl) ?_
  refine aSims_c (i := 16) (s_callV (n := 1) hC dX6_set_24 rfl rfl (hE 103 _ _ _ _ rfl) (hF _ (by decide)) w_493 w_490 w_492 w_17 w_96 rfl (by decide +kernel)) ?_
  refine aSims_c (i := 17) (s_astore hC dX6_set_27 rfl rfl) ?_
  refine aSims_c (i := 18) (s_aload hC dX6_set_29 rfl rfl) ?_
  refine aSims_c (i := 19) (s_ifnonnull hC dX6_set_31 rfl rfl rfl) ?_
  refine aSims_c (i := 20) (s_bipush hC dX6_set_34 rfl rfl rfl) ?_
  refine aSims_c (i := 21) (s_goto hC dX6_set_36 rfl rfl) ?_
  refine aSims_c (i := 22) (s_aload hC dX6_set_39 rfl rfl) ?_
  refine aSims_c (i := 23) (s_iload_n hC dX6_set_41 rfl rfl) ?_
  refine aSims_c (i := 24) (s_iload_n hC dX6_set_42 rfl rfl) ?_
  refine aSims_c (i := 25) (s_callV (n := 2) hC dX6_set_43 rfl rfl (hE 4 _ _ _ _ rfl) (hF _ (by decide)) w_497 w_494 w_495 w_496 w_99 rfl (by decide +kernel)) ?_
  refine aSims_c (i := 26) (s_iret hC dX6_set_46 rfl hr hlk nar_qI) ?_
  exact aSims_n
set_option maxHeartbeats 4000000 in
set_option maxRecDepth 20000 in
theorem sm_X6_setDay (hC : aC p s m args c cX6_setDay 3 RX6 D cA ad bs n0 H0 X) (hF : ∀ ml, ml ≤ 41 → aFit R d ml) (hRm : 16 ≤ R.frames ∧ 1000 ≤ R.locals) (hE : aCalls l D cA ad bs X d E) (hr : meth.sig.returnType = (some .int)) (hlk : meth.locks = false) : aSims (fun f i => aSim p l e R s m args below meth c (aEnd below s args D cA ad bs n0 z0 rv hf) 3 D cA ad bs n0 z0 H0 (apc pc_X6_setDay) rv hf E f i) (cd_X6_setDay) 0 := by
  unfold cd_X6_setDay
  refine aSims_c (i := 0) (s_iload_n hC dX6_setDay_0 rfl rfl) ?_
  refine aSims_c (i := 1) (s_if_lt hC dX6_setDay_1 rfl rfl rfl) ?_
  refine aSims_c (i := 2) (s_iload_n hC dX6_setDay_4 rfl rfl) ?_
  refine aSims_c (i := 3) (s_sipush hC dX6_setDay_5 rfl rfl rfl) ?_
  refine aSims_c (i := 4) (s_icmp_le hC dX6_setDay_8 rfl rfl rfl) ?_
  refine aSims_c (i := 5) (s_bipush hC dX6_setDay_11 rfl rfl rfl) ?_
  refine aSims_c (i := 6) (s_iret hC dX6_setDay_13 rfl hr hlk nar_qI) ?_
  refine aSims_c (i := 7) (s_aload_n hC dX6_setDay_14 rfl rfl) ?_
  refine aSims_c (i := 8) (s_get hC dX6_setDay_15 rfl rfl w_444 rfl rfl inB6 (by decide)) ?_
  refine aSims_c (i := 9) (s_get hC dX6_setDay_18 rfl rfl w_392 rfl rfl inB5 (by decide)) ?_
  refine aSims_c (i := 10) (s_istore_n hC dX6_setDay_21 rfl rfl) ?_
  refine aSims_c (i := 11) (s_aload_n hC dX6_setDay_22 rfl rfl) ?_
  refine aSims_c (i := 12) (s_get hC dX6_setDay_23 rfl rfl w_444 rfl rfl inB6 (by decide)) ?_
  refine aSims_c (i := 13) (s_iload_n hC dX6_setDay_26 rfl rfl) ?_
  refine aSims_c (i := 14) (s_put hC dX6_setDay_27 rfl rfl w_392 rfl rfl inB5 tyX5_ok nmX5 (by decide) rfl) ?_
  refine aSims_c (i := 15) (s_iload_n hC dX6_setDay_30 rfl rfl) ?_
  refine aSims_c (i := 16) (s_iret hC dX6_setDay_31 rfl hr hlk nar_qI) ?_
  exact aSims_n
set_option maxHeartbeats 4000000 in
set_option maxRecDepth 20000 in
theorem sm_X6_setHard (hC : aC p s m args c cX6_setHard 4 RX6 D cA ad bs n0 H0 X) (hF : ∀ ml, ml ≤ 41 → aFit R d ml) (hRm : 16 ≤ R.frames ∧ 1000 ≤ R.locals) (hE : aCalls l D cA ad bs X d E) (hr : meth.sig.returnType = (some .int)) (hlk : meth.locks = false) : aSims (fun f i => aSim p l e R s m args below meth c (aEnd below s args D cA ad bs n0 z0 rv hf) 4 D cA ad bs n0 z0 H0 (apc pc_X6_setHard) rv hf E f i) (cd_X6_setHard) 0 := by
  unfold cd_X6_setHard
  refine aSims_c (i := 0) (s_iload_n hC dX6_setHard_0 rfl rfl) ?_
  refine aSims_c (i := 1) (s_callS hC dX6_setHard_1 rfl rfl (hE 106 _ _ _ _ rfl) (hF _ (by decide)) w_489 w_487 w_488 w_96 (by decide +kernel)) ?_
  refine aSims_c (i := 2) (s_if_eq hC dX6_setHard_4 rfl rfl rfl) ?_
  refine aSims_c (i := 3) (s_iload_n hC dX6_setHard_7 rfl rfl) ?_
  refine aSims_c (i := 4) (s_if_lt hC dX6_setHard_8 rfl rfl rfl) ?_
  refine aSims_c (i := 5) (s_iload_n hC dX6_setHard_11 rfl rfl) ?_
  refine aSims_c (i := 6) (s_bipush hC dX6_setHard_12 rfl rfl rfl) ?_
  refine aSims_c (i := 7) (s_icmp_le hC dX6_setHard_14 rfl rfl rfl) ?_
  refine aSims_c (i := 8) (s_bipush hC dX6_setHard_17 rfl rfl rfl) ?_
  refine aSims_c (i := 9) (s_iret hC dX6_setHard_19 rfl hr hlk nar_qI) ?_
  refine aSims_c (i := 10) (s_aload_n hC dX6_setHard_20 rfl rfl) ?_
  refine aSims_c (i := 11) (s_get hC dX6_setHard_21 rfl rfl w_444 rfl rfl inB6 (by decide)) ?_
  refine aSims_c (i := 12) (s_get hC dX6_setHard_24 rfl rfl w_390 rfl rfl inB5 (by decide)) ?_
  refine aSims_c (i := 13) (s_iload_n hC dX6_setHard_27 rfl rfl) ?_
  refine aSims_c (i := 14) (s_iaload hC hX0 dX6_setHard_28 rfl rfl) ?_
  refine aSims_c (i := 15) (s_istore_n hC dX6_setHard_29 rfl rfl) ?_
  refine aSims_c (i := 16) (s_aload_n hC dX6_setHard_30 rfl rfl) ?_
  refine aSims_c (i := 17) (s_get hC dX6_setHard_31 rfl rfl w_444 rfl rfl inB6 (by decide)) ?_
  refine aSims_c (i := 18) (s_get hC dX6_setHard_34 rfl rfl w_390 rfl rfl inB5 (by decide)) ?_
  refine aSims_c (i := 19) (s_iload_n hC dX6_setHard_37 rfl rfl) ?_
  refine aSims_c (i := 20) (s_iload_n hC dX6_setHard_38 rfl rfl) ?_
  refine aSims_c (i := 21) (s_iastore hC dX6_setHard_39 rfl rfl) ?_
  refine aSims_c (i := 22) (s_iload_n hC dX6_setHard_40 rfl rfl) ?_
  refine aSims_c (i := 23) (s_iret hC dX6_setHard_41 rfl hr hlk nar_qI) ?_
  exact aSims_n
set_option maxHeartbeats 4000000 in
set_option maxRecDepth 20000 in
theorem sm_X6_learner (hC : aC p s m args c cX6_learner 3 RX6 D cA ad bs n0 H0 X) (hF : ∀ ml, ml ≤ 41 → aFit R d ml) (hRm : 16 ≤ R.frames ∧ 1000 ≤ R.locals) (hE : aCalls l D cA ad bs X d E) (hr : meth.sig.returnType = (some .int)) (hlk : meth.locks = false) : aSims (fun f i => aSim p l e R s m args below meth c (aEnd below s args D cA ad bs n0 z0 rv hf) 3 D cA ad bs n0 z0 H0 (apc pc_X6_learner) rv hf E f i) (cd_X6_learner) 0 := by
  unfold cd_X6_learner
  refine aSims_c (i := 0) (s_aload_n hC dX6_learner_0 rfl rfl) ?_
  refine aSims_c (i := 1) (s_iload_n hC dX6_learner_1 rfl rfl) ?_
  refine aSims_c (i := 2) (s_iload_n hC dX6_learner_2 rfl rfl) ?_
  refine aSims_c (i := 3) (s_callV (n := 2) hC dX6_learner_3 rfl rfl (hE 70 _ _ _ _ rfl) (hF _ (by decide)) w_513 w_510 w_512 w_18 w_96 rfl (by decide +kernel)) ?_
  refine aSims_c (i := 4) (s_iret hC dX6_learner_6 rfl hr hlk nar_qI) ?_
  exact aSims_n
set_option maxHeartbeats 4000000 in
set_option maxRecDepth 20000 in
theorem sm_X6_comes (hC : aC p s m args c cX6_comes 3 RX6 D cA ad bs n0 H0 X) (hF : ∀ ml, ml ≤ 41 → aFit R d ml) (hRm : 16 ≤ R.frames ∧ 1000 ≤ R.locals) (hE : aCalls l D cA ad bs X d E) (hr : meth.sig.returnType = (some .int)) (hlk : meth.locks = false) : aSims (fun f i => aSim p l e R s m args below meth c (aEnd below s args D cA ad bs n0 z0 rv hf) 3 D cA ad bs n0 z0 H0 (apc pc_X6_comes) rv hf E f i) (cd_X6_comes) 0 := by
  unfold cd_X6_comes
  refine aSims_c (i := 0) (s_iload_n hC dX6_comes_0 rfl rfl) ?_
  refine aSims_c (i := 1) (s_if_lt hC dX6_comes_1 rfl rfl rfl) ?_
  refine aSims_c (i := 2) (s_iload_n hC dX6_comes_4 rfl rfl) ?_
  refine aSims_c (i := 3) (s_bipush hC dX6_comes_5 rfl rfl rfl) ?_
  refine aSims_c (i := 4) (s_icmp_ge hC dX6_comes_7 rfl rfl rfl) ?_
  refine aSims_c (i := 5) (s_iload_n hC dX6_comes_10 rfl rfl) ?_
  refine aSims_c (i := 6) (s_if_lt hC dX6_comes_11 rfl rfl rfl) ?_
  refine aSims_c (i := 7) (s_iload_n hC dX6_comes_14 rfl rfl) ?_
  refine aSims_c (i := 8) (s_bipush hC dX6_comes_15 rfl rfl rfl) ?_
  refine aSims_c (i := 9) (s_icmp_lt hC dX6_comes_17 rfl rfl rfl) ?_
  refine aSims_c (i := 10) (s_bipush hC dX6_comes_20 rfl rfl rfl) ?_
  refine aSims_c (i := 11) (s_iret hC dX6_comes_22 rfl hr hlk nar_qI) ?_
  refine aSims_c (i := 12) (s_aload_n hC dX6_comes_23 rfl rfl) ?_
  refine aSims_c (i := 13) (s_get hC dX6_comes_24 rfl rfl w_446 rfl rfl inB6 (by decide)) ?_
  refine aSims_c (i := 14) (s_if_lt hC dX6_comes_27 rfl rfl rfl) ?_
  refine aSims_c (i := 15) (s_aload_n hC dX6_comes_30 rfl rfl) ?_
  refine aSims_c (i := 16) (s_get hC dX6_comes_31 rfl rfl w_446 rfl rfl inB6 (by decide)) ?_
  refine aSims_c (i := 17) (s_iconst hC dX6_comes_34 rfl rfl rfl) ?_
  refine aSims_c (i := 18) (s_icmp_lt hC dX6_comes_35 rfl rfl rfl) ?_
  refine aSims_c (i := 19) (s_bipush hC dX6_comes_38 rfl rfl rfl) ?_
  refine aSims_c (i := 20) (s_iret hC dX6_comes_40 rfl hr hlk nar_qI) ?_
  refine aSims_c (i := 21) (s_aload_n hC dX6_comes_41 rfl rfl) ?_
  refine aSims_c (i := 22) (s_get hC dX6_comes_42 rfl rfl w_445 rfl rfl inB6 (by decide)) ?_
  refine aSims_c (i := 23) (s_aload_n hC dX6_comes_45 rfl rfl) ?_
  refine aSims_c (i := 24) (s_get hC dX6_comes_46 rfl rfl w_446 rfl rfl inB6 (by decide)) ?_
  refine aSims_c (i := 25) (s_aaload hC dX6_comes_49 rfl rfl) ?_
  refine aSims_c (i := 26) (s_iload_n hC dX6_comes_50 rfl rfl) ?_
  refine aSims_c (i := 27) (s_iload_n hC dX6_comes_51 rfl rfl) ?_
  refine aSims_c (i := 28) (s_callV (n := 2) hC dX6_comes_52 rfl rfl (hE 1 _ _ _ _ rfl) (hF _ (by decide)) w_517 w_514 w_515 w_516 w_99 rfl (by decide +kernel)) ?_
  refine aSims_c (i := 29) (s_aload_n hC dX6_comes_55 rfl rfl) ?_
  refine aSims_c (i := 30) (s_dup hC dX6_comes_56 rfl rfl) ?_
  refine aSims_c (i := 31) (s_get hC dX6_comes_57 rfl rfl w_446 rfl rfl inB6 (by decide)) ?_
  refine aSims_c (i := 32) (s_iconst hC dX6_comes_60 rfl rfl rfl) ?_
  refine aSims_c (i := 33) (s_iadd hC dX6_comes_61 rfl rfl) ?_
  refine aSims_c (i := 34) (s_put hC dX6_comes_62 rfl rfl w_446 rfl rfl inB6 tyX6_ok nmX6 (by decide) rfl) ?_
  refine aSims_c (i := 35) (s_aload_n hC dX6_comes_65 rfl rfl) ?_
  refine aSims_c (i := 36) (s_get hC dX6_comes_66 rfl rfl w_446 rfl rfl inB6 (by decide)) ?_
  refine aSims_c (i := 37) (s_iconst hC dX6_comes_69 rfl rfl rfl) ?_
  refine aSims_c (i := 38) (s_isub hC dX6_comes_70 rfl rfl) ?_
  refine aSims_c (i := 39) (s_iret hC dX6_comes_71 rfl hr hlk nar_qI) ?_
  exact aSims_n
set_option maxHeartbeats 4000000 in
set_option maxRecDepth 20000 in
theorem sm_X6_told (hC : aC p s m args c cX6_told 4 RX6 D cA ad bs n0 H0 X) (hF : ∀ ml, ml ≤ 41 → aFit R d ml) (hRm : 16 ≤ R.frames ∧ 1000 ≤ R.locals) (hE : aCalls l D cA ad bs X d E) (hr : meth.sig.returnType = (some .int)) (hlk : meth.locks = false) : aSims (fun f i => aSim p l e R s m args below meth c (aEnd below s args D cA ad bs n0 z0 rv hf) 4 D cA ad bs n0 z0 H0 (apc pc_X6_told) rv hf E f i) (cd_X6_told) 0 := by
  unfold cd_X6_told
  refine aSims_c (i := 0) (s_iload_n hC dX6_told_0 rfl rfl) ?_
  refine aSims_c (i := 1) (s_if_ne hC dX6_told_1 rfl rfl rfl) ?_
  refine aSims_c (i := 2) (s_aload_n hC dX6_told_4 rfl rfl) ?_
  refine aSims_c (i := 3) (s_get hC dX6_told_5 rfl rfl w_444 rfl rfl inB6 (by decide)) ?_
  refine aSims_c (i := 4) (s_get hC dX6_told_8 rfl rfl w_392 rfl rfl inB5 (by decide)) ?_
  refine aSims_c (i := 5) (s_iret hC dX6_told_11 rfl hr hlk nar_qI) ?_
  refine aSims_c (i := 6) (s_iload_n hC dX6_told_12 rfl rfl) ?_
  refine aSims_c (i := 7) (s_iconst hC dX6_told_13 rfl rfl rfl) ?_
  refine aSims_c (i := 8) (s_icmp_ne hC dX6_told_14 rfl rfl rfl) ?_
  refine aSims_c (i := 9) (s_iload_n hC dX6_told_17 rfl rfl) ?_
  refine aSims_c (i := 10) (s_callS hC dX6_told_18 rfl rfl (hE 106 _ _ _ _ rfl) (hF _ (by decide)) w_489 w_487 w_488 w_96 (by decide +kernel)) ?_
  refine aSims_c (i := 11) (s_if_eq hC dX6_told_21 rfl rfl rfl) ?_
  refine aSims_c (i := 12) (s_aload_n hC dX6_told_24 rfl rfl) ?_
  refine aSims_c (i := 13) (s_get hC dX6_told_25 rfl rfl w_444 rfl rfl inB6 (by decide)) ?_
  refine aSims_c (i := 14) (s_get hC dX6_told_28 rfl rfl w_390 rfl rfl inB5 (by decide)) ?_
  refine aSims_c (i := 15) (s_iload_n hC dX6_told_31 rfl rfl) ?_
  refine aSims_c (i := 16) (s_iaload hC hX0 dX6_told_32 rfl rfl) ?_
  refine aSims_c (i := 17) (s_goto hC dX6_told_33 rfl rfl) ?_
  refine aSims_c (i := 18) (s_bipush hC dX6_told_36 rfl rfl rfl) ?_
  refine aSims_c (i := 19) (s_iret hC dX6_told_38 rfl hr hlk nar_qI) ?_
  refine aSims_c (i := 20) (s_aload_n hC dX6_told_39 rfl rfl) ?_
  refine aSims_c (i := 21) (s_iload_n hC dX6_told_40 rfl rfl) ?_
  refine aSims_c (i := 22) (s_callV (n := 1) hC dX6_told_41 rfl rfl (hE 103 _ _ _ _ rfl) (hF _ (by decide)) w_493 w_490 w_492 w_17 w_96 rfl (by decide +kernel)) ?_
  refine aSims_c (i := 23) (s_astore_n hC dX6_told_44 rfl rfl) ?_
  refine aSims_c (i := 24) (s_aload_n hC dX6_told_45 rfl rfl) ?_
  refine aSims_c (i := 25) (s_ifnonnull hC dX6_told_46 rfl rfl rfl) ?_
  refine aSims_c (i := 26) (s_bipush hC dX6_told_49 rfl rfl rfl) ?_
  refine aSims_c (i := 27) (s_iret hC dX6_told_51 rfl hr hlk nar_qI) ?_
  refine aSims_c (i := 28) (s_iload_n hC dX6_told_52 rfl rfl) ?_
  refine aSims_c (i := 29) (s_bipush hC dX6_told_53 rfl rfl rfl) ?_
  refine aSims_c (i := 30) (s_icmp_ne hC dX6_told_55 rfl rfl rfl) ?_
  refine aSims_c (i := 31) (s_aload_n hC dX6_told_58 rfl rfl) ?_
  refine aSims_c (i := 32) (s_get hC dX6_told_59 rfl rfl w_444 rfl rfl inB6 (by decide)) ?_
  refine aSims_c (i := 33) (s_aload_n hC dX6_told_62 rfl rfl) ?_
  refine aSims_c (i := 34) (s_callV (n := 1) hC dX6_told_63 rfl rfl (hE 61 _ _ _ _ rfl) (hF _ (by decide)) w_526 w_523 w_524 w_525 w_107 rfl (by decide +kernel)) ?_
  refine aSims_c (i := 35) (s_if_eq hC dX6_told_66 rfl rfl rfl) ?_
  refine aSims_c (i := 36) (s_iconst hC dX6_told_69 rfl rfl rfl) ?_
  refine aSims_c (i := 37) (s_goto hC dX6_told_70 rfl rfl) ?_
  refine aSims_c (i := 38) (s_iconst hC dX6_told_73 rfl rfl rfl) ?_
  refine aSims_c (i := 39) (s_iret hC dX6_told_74 rfl hr hlk nar_qI) ?_
  refine aSims_c (i := 40) (s_iload_n hC dX6_told_75 rfl rfl) ?_
  refine aSims_c (i := 41) (s_bipush hC dX6_told_76 rfl rfl rfl) ?_
  refine aSims_c (i := 42) (s_icmp_ne hC dX6_told_78 rfl rfl rfl) ?_
  refine aSims_c (i := 43) (s_aload_n hC dX6_told_81 rfl rfl) ?_
  refine aSims_c (i := 44) (s_get hC dX6_told_82 rfl rfl w_444 rfl rfl inB6 (by decide)) ?_
  refine aSims_c (i := 45) (s_aload_n hC dX6_told_85 rfl rfl) ?_
  refine aSims_c (i := 46) (s_callV (n := 1) hC dX6_told_86 rfl rfl (hE 60 _ _ _ _ rfl) (hF _ (by decide)) w_565 w_562 w_563 w_564 w_107 rfl (by decide +kernel)) ?_
  refine aSims_c (i := 47) (s_iret hC dX6_told_89 rfl hr hlk nar_qI) ?_
  refine aSims_c (i := 48) (s_iload_n hC dX6_told_90 rfl rfl) ?_
  refine aSims_c (i := 49) (s_bipush hC dX6_told_91 rfl rfl rfl) ?_
  refine aSims_c (i := 50) (s_icmp_lt hC dX6_told_93 rfl rfl rfl) ?_
  refine aSims_c (i := 51) (s_iload_n hC dX6_told_96 rfl rfl) ?_
  refine aSims_c (i := 52) (s_bipush hC dX6_told_97 rfl rfl rfl) ?_
  refine aSims_c (i := 53) (s_isub hC dX6_told_99 rfl rfl) ?_
  refine aSims_c (i := 54) (s_callS hC dX6_told_100 rfl rfl (hE 106 _ _ _ _ rfl) (hF _ (by decide)) w_489 w_487 w_488 w_96 (by decide +kernel)) ?_
  refine aSims_c (i := 55) (s_if_eq hC dX6_told_103 rfl rfl rfl) ?_
  refine aSims_c (i := 56) (s_aload_n hC dX6_told_106 rfl rfl) ?_
  refine aSims_c (i := 57) (s_get hC dX6_told_107 rfl rfl w_444 rfl rfl inB6 (by decide)) ?_
  refine aSims_c (i := 58) (s_aload_n hC dX6_told_110 rfl rfl) ?_
  refine aSims_c (i := 59) (s_iload_n hC dX6_told_111 rfl rfl) ?_
  refine aSims_c (i := 60) (s_bipush hC dX6_told_112 rfl rfl rfl) ?_
  refine aSims_c (i := 61) (s_isub hC dX6_told_114 rfl rfl) ?_
  refine aSims_c (i := 62) (s_callV (n := 2) hC dX6_told_115 rfl rfl (hE 59 _ _ _ _ rfl) (hF _ (by decide)) w_530 w_566 w_528 w_529 w_107 rfl (by decide +kernel)) ?_
  refine aSims_c (i := 63) (s_if_lt hC dX6_told_118 rfl rfl rfl) ?_
  refine aSims_c (i := 64) (s_iconst hC dX6_told_121 rfl rfl rfl) ?_
  refine aSims_c (i := 65) (s_goto hC dX6_told_122 rfl rfl) ?_
  refine aSims_c (i := 66) (s_iconst hC dX6_told_125 rfl rfl rfl) ?_
  refine aSims_c (i := 67) (s_iret hC dX6_told_126 rfl hr hlk nar_qI) ?_
  refine aSims_c (i := 68) (s_aload_n hC dX6_told_127 rfl rfl) ?_
  refine aSims_c (i := 69) (s_iload_n hC dX6_told_128 rfl rfl) ?_
  refine aSims_c (i := 70) (s_callV (n := 1) hC dX6_told_129 rfl rfl (hE 3 _ _ _ _ rfl) (hF _ (by decide)) w_501 w_567 w_499 w_500 w_99 rfl (by decide +kernel)) ?_
  refine aSims_c (i := 71) (s_iret hC dX6_told_132 rfl hr hlk nar_qI) ?_
  exact aSims_n
set_option maxHeartbeats 4000000 in
set_option maxRecDepth 20000 in
theorem sm_X6_asks (hC : aC p s m args c cX6_asks 5 RX6 D cA ad bs n0 H0 X) (hF : ∀ ml, ml ≤ 41 → aFit R d ml) (hRm : 16 ≤ R.frames ∧ 1000 ≤ R.locals) (hE : aCalls l D cA ad bs X d E) (hr : meth.sig.returnType = (some .int)) (hlk : meth.locks = false) : aSims (fun f i => aSim p l e R s m args below meth c (aEnd below s args D cA ad bs n0 z0 rv hf) 5 D cA ad bs n0 z0 H0 (apc pc_X6_asks) rv hf E f i) (cd_X6_asks) 0 := by
  unfold cd_X6_asks
  refine aSims_c (i := 0) (s_aload_n hC dX6_asks_0 rfl rfl) ?_
  refine aSims_c (i := 1) (s_iload_n hC dX6_asks_1 rfl rfl) ?_
  refine aSims_c (i := 2) (s_callV (n := 1) hC dX6_asks_2 rfl rfl (hE 103 _ _ _ _ rfl) (hF _ (by decide)) w_493 w_490 w_492 w_17 w_96 rfl (by decide +kernel)) ?_
  refine aSims_c (i := 3) (s_astore hC dX6_asks_5 rfl rfl) ?_
  refine aSims_c (i := 4) (s_aload hC dX6_asks_7 rfl rfl) ?_
  refine aSims_c (i := 5) (s_ifnull hC dX6_asks_9 rfl rfl rfl) ?_
  refine aSims_c (i := 6) (s_iload_n hC dX6_asks_12 rfl rfl) ?_
  refine aSims_c (i := 7) (s_callS hC dX6_asks_13 rfl rfl (hE 106 _ _ _ _ rfl) (hF _ (by decide)) w_489 w_487 w_488 w_96 (by decide +kernel)) ?_
  refine aSims_c (i := 8) (s_if_eq hC dX6_asks_16 rfl rfl rfl) ?_
  refine aSims_c (i := 9) (s_iload_n hC dX6_asks_19 rfl rfl) ?_
  refine aSims_c (i := 10) (s_if_lt hC dX6_asks_20 rfl rfl rfl) ?_
  refine aSims_c (i := 11) (s_iload_n hC dX6_asks_23 rfl rfl) ?_
  refine aSims_c (i := 12) (s_iconst hC dX6_asks_24 rfl rfl rfl) ?_
  refine aSims_c (i := 13) (s_icmp_le hC dX6_asks_25 rfl rfl rfl) ?_
  refine aSims_c (i := 14) (s_sipush hC dX6_asks_28 rfl rfl rfl) ?_
  refine aSims_c (i := 15) (s_iret hC dX6_asks_31 rfl hr hlk nar_qI) ?_
  refine aSims_c (i := 16) (s_iload_n hC dX6_asks_32 rfl rfl) ?_
  refine aSims_c (i := 17) (s_iconst hC dX6_asks_33 rfl rfl rfl) ?_
  refine aSims_c (i := 18) (s_icmp_ge hC dX6_asks_34 rfl rfl rfl) ?_
  refine aSims_c (i := 19) (s_aload_n hC dX6_asks_37 rfl rfl) ?_
  refine aSims_c (i := 20) (s_get hC dX6_asks_38 rfl rfl w_444 rfl rfl inB6 (by decide)) ?_
  refine aSims_c (i := 21) (s_aload hC dX6_asks_41 rfl rfl) ?_
  refine aSims_c (i := 22) (s_iload_n hC dX6_asks_43 rfl rfl) ?_
  refine aSims_c (i := 23) (s_iload_n hC dX6_asks_44 rfl rfl) ?_
  refine aSims_c (i := 24) (s_callV (n := 3) hC dX6_asks_45 rfl rfl (hE 56 _ _ _ _ rfl) (hF _ (by decide)) w_575 w_572 w_573 w_574 w_107 rfl (by decide +kernel)) ?_
  refine aSims_c (i := 25) (s_iret hC dX6_asks_48 rfl hr hlk nar_qI) ?_
  refine aSims_c (i := 26) (s_iload_n hC dX6_asks_49 rfl rfl) ?_
  refine aSims_c (i := 27) (s_iconst hC dX6_asks_50 rfl rfl rfl) ?_
  refine aSims_c (i := 28) (s_icmp_ne hC dX6_asks_51 rfl rfl rfl) ?_
  refine aSims_c (i := 29) (s_aload_n hC dX6_asks_54 rfl rfl) ?_
  refine aSims_c (i := 30) (s_get hC dX6_asks_55 rfl rfl w_444 rfl rfl inB6 (by decide)) ?_
  refine aSims_c (i := 31) (s_aload hC dX6_asks_58 rfl rfl) ?_
  refine aSims_c (i := 32) (s_iload_n hC dX6_asks_60 rfl rfl) ?_
  refine aSims_c (i := 33) (s_callV (n := 2) hC dX6_asks_61 rfl rfl (hE 57 _ _ _ _ rfl) (hF _ (by decide)) w_584 w_581 w_582 w_583 w_107 rfl (by decide +kernel)) ?_
  refine aSims_c (i := 34) (s_goto hC dX6_asks_64 rfl rfl) ?_
  refine aSims_c (i := 35) (s_aload_n hC dX6_asks_67 rfl rfl) ?_
  refine aSims_c (i := 36) (s_get hC dX6_asks_68 rfl rfl w_444 rfl rfl inB6 (by decide)) ?_
  refine aSims_c (i := 37) (s_aload hC dX6_asks_71 rfl rfl) ?_
  refine aSims_c (i := 38) (s_iload_n hC dX6_asks_73 rfl rfl) ?_
  refine aSims_c (i := 39) (s_callV (n := 2) hC dX6_asks_74 rfl rfl (hE 58 _ _ _ _ rfl) (hF _ (by decide)) w_534 w_589 w_532 w_533 w_107 rfl (by decide +kernel)) ?_
  refine aSims_c (i := 40) (s_iret hC dX6_asks_77 rfl hr hlk nar_qI) ?_
  exact aSims_n
set_option maxHeartbeats 4000000 in
set_option maxRecDepth 20000 in
theorem sm_X6_feed (hC : aC p s m args c cX6_feed 2 RX6 D cA ad bs n0 H0 X) (hF : ∀ ml, ml ≤ 41 → aFit R d ml) (hRm : 16 ≤ R.frames ∧ 1000 ≤ R.locals) (hE : aCalls l D cA ad bs X d E) (hr : meth.sig.returnType = (some .int)) (hlk : meth.locks = false) : aSims (fun f i => aSim p l e R s m args below meth c (aEnd below s args D cA ad bs n0 z0 rv hf) 2 D cA ad bs n0 z0 H0 (apc pc_X6_feed) rv hf E f i) (cd_X6_feed) 0 := by
  unfold cd_X6_feed
  refine aSims_c (i := 0) (s_iload_n hC dX6_feed_0 rfl rfl) ?_
  refine aSims_c (i := 1) (s_if_lt hC dX6_feed_1 rfl rfl rfl) ?_
  refine aSims_c (i := 2) (s_iload_n hC dX6_feed_4 rfl rfl) ?_
  refine aSims_c (i := 3) (s_sipush hC dX6_feed_5 rfl rfl rfl) ?_
  refine aSims_c (i := 4) (s_icmp_le hC dX6_feed_8 rfl rfl rfl) ?_
  refine aSims_c (i := 5) (s_bipush hC dX6_feed_11 rfl rfl rfl) ?_
  refine aSims_c (i := 6) (s_iret hC dX6_feed_13 rfl hr hlk nar_qI) ?_
  refine aSims_c (i := 7) (s_aload_n hC dX6_feed_14 rfl rfl) ?_
  refine aSims_c (i := 8) (s_get hC dX6_feed_15 rfl rfl w_443 rfl rfl inB6 (by decide)) ?_
  refine aSims_c (i := 9) (s_iload_n hC dX6_feed_18 rfl rfl) ?_
  refine aSims_c (i := 10) (s_callV (n := 1) hC dX6_feed_19 rfl rfl (hE 13 _ _ _ _ rfl) (hF _ (by decide)) w_281 w_278 w_279 w_280 w_97 rfl (by decide +kernel)) ?_
  refine aSims_c (i := 11) (s_if_eq hC dX6_feed_22 rfl rfl rfl) ?_
  refine aSims_c (i := 12) (s_aload_n hC dX6_feed_25 rfl rfl) ?_
  refine aSims_c (i := 13) (s_get hC dX6_feed_26 rfl rfl w_443 rfl rfl inB6 (by decide)) ?_
  refine aSims_c (i := 14) (s_get hC dX6_feed_29 rfl rfl w_152 rfl rfl inB1 (by decide)) ?_
  refine aSims_c (i := 15) (s_goto hC dX6_feed_32 rfl rfl) ?_
  refine aSims_c (i := 16) (s_bipush hC dX6_feed_35 rfl rfl rfl) ?_
  refine aSims_c (i := 17) (s_iret hC dX6_feed_37 rfl hr hlk nar_qI) ?_
  exact aSims_n
set_option maxHeartbeats 4000000 in
set_option maxRecDepth 20000 in
theorem sm_X6_text (hC : aC p s m args c cX6_text 2 RX6 D cA ad bs n0 H0 X) (hF : ∀ ml, ml ≤ 41 → aFit R d ml) (hRm : 16 ≤ R.frames ∧ 1000 ≤ R.locals) (hE : aCalls l D cA ad bs X d E) (hr : meth.sig.returnType = (some .int)) (hlk : meth.locks = false) : aSims (fun f i => aSim p l e R s m args below meth c (aEnd below s args D cA ad bs n0 z0 rv hf) 2 D cA ad bs n0 z0 H0 (apc pc_X6_text) rv hf E f i) (cd_X6_text) 0 := by
  unfold cd_X6_text
  refine aSims_c (i := 0) (s_aload_n hC dX6_text_0 rfl rfl) ?_
  refine aSims_c (i := 1) (s_get hC dX6_text_1 rfl rfl w_442 rfl rfl inB6 (by decide)) ?_
  refine aSims_c (i := 2) (s_if_lt hC dX6_text_4 rfl rfl rfl) ?_
  refine aSims_c (i := 3) (s_aload_n hC dX6_text_7 rfl rfl) ?_
  refine aSims_c (i := 4) (s_get hC dX6_text_8 rfl rfl w_442 rfl rfl inB6 (by decide)) ?_
  refine aSims_c (i := 5) (s_bipush hC dX6_text_11 rfl rfl rfl) ?_
  refine aSims_c (i := 6) (s_icmp_lt hC dX6_text_13 rfl rfl rfl) ?_
  refine aSims_c (i := 7) (s_bipush hC dX6_text_16 rfl rfl rfl) ?_
  refine aSims_c (i := 8) (s_iret hC dX6_text_18 rfl hr hlk nar_qI) ?_
  refine aSims_c (i := 9) (s_aload_n hC dX6_text_19 rfl rfl) ?_
  refine aSims_c (i := 10) (s_get hC dX6_text_20 rfl rfl w_443 rfl rfl inB6 (by decide)) ?_
  refine aSims_c (i := 11) (s_aload_n hC dX6_text_23 rfl rfl) ?_
  refine aSims_c (i := 12) (s_get hC dX6_text_24 rfl rfl w_441 rfl rfl inB6 (by decide)) ?_
  refine aSims_c (i := 13) (s_aload_n hC dX6_text_27 rfl rfl) ?_
  refine aSims_c (i := 14) (s_get hC dX6_text_28 rfl rfl w_442 rfl rfl inB6 (by decide)) ?_
  refine aSims_c (i := 15) (s_aaload hC dX6_text_31 rfl rfl) ?_
  refine aSims_c (i := 16) (s_callV (n := 1) hC dX6_text_32 rfl rfl (hE 14 _ _ _ _ rfl) (hF _ (by decide)) w_285 w_282 w_283 w_284 w_97 rfl (by decide +kernel)) ?_
  refine aSims_c (i := 17) (s_istore_n hC dX6_text_35 rfl rfl) ?_
  refine aSims_c (i := 18) (s_iload_n hC dX6_text_36 rfl rfl) ?_
  refine aSims_c (i := 19) (s_iconst hC dX6_text_37 rfl rfl rfl) ?_
  refine aSims_c (i := 20) (s_icmp_eq hC dX6_text_38 rfl rfl rfl) ?_
  refine aSims_c (i := 21) (s_bipush hC dX6_text_41 rfl rfl rfl) ?_
  refine aSims_c (i := 22) (s_iload_n hC dX6_text_43 rfl rfl) ?_
  refine aSims_c (i := 23) (s_isub hC dX6_text_44 rfl rfl) ?_
  refine aSims_c (i := 24) (s_iret hC dX6_text_45 rfl hr hlk nar_qI) ?_
  refine aSims_c (i := 25) (s_aload_n hC dX6_text_46 rfl rfl) ?_
  refine aSims_c (i := 26) (s_dup hC dX6_text_47 rfl rfl) ?_
  refine aSims_c (i := 27) (s_get hC dX6_text_48 rfl rfl w_442 rfl rfl inB6 (by decide)) ?_
  refine aSims_c (i := 28) (s_iconst hC dX6_text_51 rfl rfl rfl) ?_
  refine aSims_c (i := 29) (s_iadd hC dX6_text_52 rfl rfl) ?_
  refine aSims_c (i := 30) (s_put hC dX6_text_53 rfl rfl w_442 rfl rfl inB6 tyX6_ok nmX6 (by decide) rfl) ?_
  refine aSims_c (i := 31) (s_aload_n hC dX6_text_56 rfl rfl) ?_
  refine aSims_c (i := 32) (s_get hC dX6_text_57 rfl rfl w_442 rfl rfl inB6 (by decide)) ?_
  refine aSims_c (i := 33) (s_iconst hC dX6_text_60 rfl rfl rfl) ?_
  refine aSims_c (i := 34) (s_isub hC dX6_text_61 rfl rfl) ?_
  refine aSims_c (i := 35) (s_iret hC dX6_text_62 rfl hr hlk nar_qI) ?_
  exact aSims_n
set_option maxHeartbeats 4000000 in
set_option maxRecDepth 20000 in
theorem sm_X6_force (hC : aC p s m args c cX6_force 4 RX6 D cA ad bs n0 H0 X) (hF : ∀ ml, ml ≤ 41 → aFit R d ml) (hRm : 16 ≤ R.frames ∧ 1000 ≤ R.locals) (hE : aCalls l D cA ad bs X d E) (hr : meth.sig.returnType = (some .int)) (hlk : meth.locks = false) : aSims (fun f i => aSim p l e R s m args below meth c (aEnd below s args D cA ad bs n0 z0 rv hf) 4 D cA ad bs n0 z0 H0 (apc pc_X6_force) rv hf E f i) (cd_X6_force) 0 := by
  unfold cd_X6_force
  refine aSims_c (i := 0) (s_aload_n hC dX6_force_0 rfl rfl) ?_
  refine aSims_c (i := 1) (s_iload_n hC dX6_force_1 rfl rfl) ?_
  refine aSims_c (i := 2) (s_callV (n := 1) hC dX6_force_2 rfl rfl (hE 104 _ _ _ _ rfl) (hF _ (by decide)) w_605 w_602 w_604 w_20 w_96 rfl (by decide +kernel)) ?_
  refine aSims_c (i := 3) (s_astore_n hC dX6_force_5 rfl rfl) ?_
  refine aSims_c (i := 4) (s_aload_n hC dX6_force_6 rfl rfl) ?_
  refine aSims_c (i := 5) (s_ifnonnull hC dX6_force_7 rfl rfl rfl) ?_
  refine aSims_c (i := 6) (s_bipush hC dX6_force_10 rfl rfl rfl) ?_
  refine aSims_c (i := 7) (s_iret hC dX6_force_12 rfl hr hlk nar_qI) ?_
  refine aSims_c (i := 8) (s_aload_n hC dX6_force_13 rfl rfl) ?_
  refine aSims_c (i := 9) (s_get hC dX6_force_14 rfl rfl w_444 rfl rfl inB6 (by decide)) ?_
  refine aSims_c (i := 10) (s_get hC dX6_force_17 rfl rfl w_395 rfl rfl inB5 (by decide)) ?_
  refine aSims_c (i := 11) (s_get hC dX6_force_20 rfl rfl w_134 rfl rfl inB3 (by decide)) ?_
  refine aSims_c (i := 12) (s_istore_n hC dX6_force_23 rfl rfl) ?_
  refine aSims_c (i := 13) (s_aload_n hC dX6_force_24 rfl rfl) ?_
  refine aSims_c (i := 14) (s_get hC dX6_force_25 rfl rfl w_444 rfl rfl inB6 (by decide)) ?_
  refine aSims_c (i := 15) (s_aload_n hC dX6_force_28 rfl rfl) ?_
  refine aSims_c (i := 16) (s_put hC dX6_force_29 rfl rfl w_395 rfl rfl inB5 tyX5_ok nmX5 (by decide) rfl) ?_
  refine aSims_c (i := 17) (s_iload_n hC dX6_force_32 rfl rfl) ?_
  refine aSims_c (i := 18) (s_iret hC dX6_force_33 rfl hr hlk nar_qI) ?_
  exact aSims_n
set_option maxHeartbeats 4000000 in
set_option maxRecDepth 20000 in
theorem sm_X6_drive (hC : aC p s m args c cX6_drive 5 RX6 D cA ad bs n0 H0 X) (hF : ∀ ml, ml ≤ 41 → aFit R d ml) (hRm : 16 ≤ R.frames ∧ 1000 ≤ R.locals) (hE : aCalls l D cA ad bs X d E) (hr : meth.sig.returnType = (some .int)) (hlk : meth.locks = false) : aSims (fun f i => aSim p l e R s m args below meth c (aEnd below s args D cA ad bs n0 z0 rv hf) 5 D cA ad bs n0 z0 H0 (apc pc_X6_drive) rv hf E f i) (cd_X6_drive) 0 := by
  unfold cd_X6_drive
  refine aSims_c (i := 0) (s_aload_n hC dX6_drive_0 rfl rfl) ?_
  refine aSims_c (i := 1) (s_iload_n hC dX6_drive_1 rfl rfl) ?_
  refine aSims_c (i := 2) (s_callV (n := 1) hC dX6_drive_2 rfl rfl (hE 103 _ _ _ _ rfl) (hF _ (by decide)) w_493 w_490 w_492 w_17 w_96 rfl (by decide +kernel)) ?_
  refine aSims_c (i := 3) (s_astore hC dX6_drive_5 rfl rfl) ?_
  refine aSims_c (i := 4) (s_aload hC dX6_drive_7 rfl rfl) ?_
  refine aSims_c (i := 5) (s_ifnull hC dX6_drive_9 rfl rfl rfl) ?_
  refine aSims_c (i := 6) (s_iload_n hC dX6_drive_12 rfl rfl) ?_
  refine aSims_c (i := 7) (s_callS hC dX6_drive_13 rfl rfl (hE 106 _ _ _ _ rfl) (hF _ (by decide)) w_489 w_487 w_488 w_96 (by decide +kernel)) ?_
  refine aSims_c (i := 8) (s_if_eq hC dX6_drive_16 rfl rfl rfl) ?_
  refine aSims_c (i := 9) (s_iload_n hC dX6_drive_19 rfl rfl) ?_
  refine aSims_c (i := 10) (s_callS hC dX6_drive_20 rfl rfl (hE 107 _ _ _ _ rfl) (hF _ (by decide)) w_612 w_610 w_611 w_96 (by decide +kernel)) ?_
  refine aSims_c (i := 11) (s_if_ne hC dX6_drive_23 rfl rfl rfl) ?_
  refine aSims_c (i := 12) (s_bipush hC dX6_drive_26 rfl rfl rfl) ?_
  refine aSims_c (i := 13) (s_iret hC dX6_drive_28 rfl hr hlk nar_qI) ?_
  refine aSims_c (i := 14) (s_aload_n hC dX6_drive_29 rfl rfl) ?_
  refine aSims_c (i := 15) (s_get hC dX6_drive_30 rfl rfl w_444 rfl rfl inB6 (by decide)) ?_
  refine aSims_c (i := 16) (s_aload hC dX6_drive_33 rfl rfl) ?_
  refine aSims_c (i := 17) (s_iload_n hC dX6_drive_35 rfl rfl) ?_
  refine aSims_c (i := 18) (s_iload_n hC dX6_drive_36 rfl rfl) ?_
  refine aSims_c (i := 19) (s_callV (n := 3) hC dX6_drive_37 rfl rfl (hE 63 _ _ _ _ rfl) (hF _ (by decide)) w_616 w_613 w_614 w_615 w_107 rfl (by decide +kernel)) ?_
  refine aSims_c (i := 20) (s_aload hC dX6_drive_40 rfl rfl) ?_
  refine aSims_c (i := 21) (s_get hC dX6_drive_42 rfl rfl w_198 rfl rfl inB0 (by decide)) ?_
  refine aSims_c (i := 22) (s_iload_n hC dX6_drive_45 rfl rfl) ?_
  refine aSims_c (i := 23) (s_iaload hC hX0 dX6_drive_46 rfl rfl) ?_
  refine aSims_c (i := 24) (s_iret hC dX6_drive_47 rfl hr hlk nar_qI) ?_
  exact aSims_n
set_option maxHeartbeats 4000000 in
set_option maxRecDepth 20000 in
theorem sm_X6_night (hC : aC p s m args c cX6_night 2 RX6 D cA ad bs n0 H0 X) (hF : ∀ ml, ml ≤ 41 → aFit R d ml) (hRm : 16 ≤ R.frames ∧ 1000 ≤ R.locals) (hE : aCalls l D cA ad bs X d E) (hr : meth.sig.returnType = (some .int)) (hlk : meth.locks = false) : aSims (fun f i => aSim p l e R s m args below meth c (aEnd below s args D cA ad bs n0 z0 rv hf) 2 D cA ad bs n0 z0 H0 (apc pc_X6_night) rv hf E f i) (cd_X6_night) 0 := by
  unfold cd_X6_night
  refine aSims_c (i := 0) (s_aload_n hC dX6_night_0 rfl rfl) ?_
  refine aSims_c (i := 1) (s_get hC dX6_night_1 rfl rfl w_444 rfl rfl inB6 (by decide)) ?_
  refine aSims_c (i := 2) (s_get hC dX6_night_4 rfl rfl w_392 rfl rfl inB5 (by decide)) ?_
  refine aSims_c (i := 3) (s_sipush hC dX6_night_7 rfl rfl rfl) ?_
  refine aSims_c (i := 4) (s_icmp_lt hC dX6_night_10 rfl rfl rfl) ?_
  refine aSims_c (i := 5) (s_bipush hC dX6_night_13 rfl rfl rfl) ?_
  refine aSims_c (i := 6) (s_iret hC dX6_night_15 rfl hr hlk nar_qI) ?_
  refine aSims_c (i := 7) (s_iconst hC dX6_night_16 rfl rfl rfl) ?_
  refine aSims_c (i := 8) (s_istore_n hC dX6_night_17 rfl rfl) ?_
  refine aSims_c (i := 9) (s_iload_n hC dX6_night_18 rfl rfl) ?_
  refine aSims_c (i := 10) (s_aload_n hC dX6_night_19 rfl rfl) ?_
  refine aSims_c (i := 11) (s_get hC dX6_night_20 rfl rfl w_446 rfl rfl inB6 (by decide)) ?_
  refine aSims_c (i := 12) (s_icmp_ge hC dX6_night_23 rfl rfl rfl) ?_
  refine aSims_c (i := 13) (s_iload_n hC dX6_night_26 rfl rfl) ?_
  refine aSims_c (i := 14) (s_iconst hC dX6_night_27 rfl rfl rfl) ?_
  refine aSims_c (i := 15) (s_icmp_ge hC dX6_night_28 rfl rfl rfl) ?_
  refine aSims_c (i := 16) (s_aload_n hC dX6_night_31 rfl rfl) ?_
  refine aSims_c (i := 17) (s_get hC dX6_night_32 rfl rfl w_444 rfl rfl inB6 (by decide)) ?_
  refine aSims_c (i := 18) (s_aload_n hC dX6_night_35 rfl rfl) ?_
  refine aSims_c (i := 19) (s_get hC dX6_night_36 rfl rfl w_445 rfl rfl inB6 (by decide)) ?_
  refine aSims_c (i := 20) (s_iload_n hC dX6_night_39 rfl rfl) ?_
  refine aSims_c (i := 21) (s_aaload hC dX6_night_40 rfl rfl) ?_
  refine aSims_c (i := 22) (s_callV (n := 1) hC dX6_night_41 rfl rfl (hE 64 _ _ _ _ rfl) (hF _ (by decide)) w_626 w_623 w_624 w_625 w_107 rfl (by decide +kernel)) ?_
  refine aSims_c (i := 23) (s_iinc hC dX6_night_44 rfl rfl) ?_
  refine aSims_c (i := 24) (s_goto hC dX6_night_47 rfl rfl) ?_
  refine aSims_c (i := 25) (s_aload_n hC dX6_night_50 rfl rfl) ?_
  refine aSims_c (i := 26) (s_get hC dX6_night_51 rfl rfl w_444 rfl rfl inB6 (by decide)) ?_
  refine aSims_c (i := 27) (s_dup hC dX6_night_54 rfl rfl) ?_
  refine aSims_c (i := 28) (s_get hC dX6_night_55 rfl rfl w_392 rfl rfl inB5 (by decide)) ?_
  refine aSims_c (i := 29) (s_iconst hC dX6_night_58 rfl rfl rfl) ?_
  refine aSims_c (i := 30) (s_iadd hC dX6_night_59 rfl rfl) ?_
  refine aSims_c (i := 31) (s_put hC dX6_night_60 rfl rfl w_392 rfl rfl inB5 tyX5_ok nmX5 (by decide) rfl) ?_
  refine aSims_c (i := 32) (s_aload_n hC dX6_night_63 rfl rfl) ?_
  refine aSims_c (i := 33) (s_callV (n := 0) hC dX6_night_64 rfl rfl (hE 78 _ _ _ _ rfl) (hF _ (by decide)) w_632 w_629 w_631 w_21 w_96 rfl (by decide +kernel)) ?_
  refine aSims_c (i := 34) (s_iret hC dX6_night_67 rfl hr hlk nar_qI) ?_
  exact aSims_n
set_option maxHeartbeats 4000000 in
set_option maxRecDepth 20000 in
theorem sm_X6_readyPupils (hC : aC p s m args c cX6_readyPupils 3 RX6 D cA ad bs n0 H0 X) (hF : ∀ ml, ml ≤ 41 → aFit R d ml) (hRm : 16 ≤ R.frames ∧ 1000 ≤ R.locals) (hE : aCalls l D cA ad bs X d E) (hr : meth.sig.returnType = (some .int)) (hlk : meth.locks = false) : aSims (fun f i => aSim p l e R s m args below meth c (aEnd below s args D cA ad bs n0 z0 rv hf) 3 D cA ad bs n0 z0 H0 (apc pc_X6_readyPupils) rv hf E f i) (cd_X6_readyPupils) 0 := by
  unfold cd_X6_readyPupils
  refine aSims_c (i := 0) (s_iconst hC dX6_readyPupils_0 rfl rfl rfl) ?_
  refine aSims_c (i := 1) (s_istore_n hC dX6_readyPupils_1 rfl rfl) ?_
  refine aSims_c (i := 2) (s_iconst hC dX6_readyPupils_2 rfl rfl rfl) ?_
  refine aSims_c (i := 3) (s_istore_n hC dX6_readyPupils_3 rfl rfl) ?_
  refine aSims_c (i := 4) (s_iload_n hC dX6_readyPupils_4 rfl rfl) ?_
  refine aSims_c (i := 5) (s_aload_n hC dX6_readyPupils_5 rfl rfl) ?_
  refine aSims_c (i := 6) (s_get hC dX6_readyPupils_6 rfl rfl w_446 rfl rfl inB6 (by decide)) ?_
  refine aSims_c (i := 7) (s_icmp_ge hC dX6_readyPupils_9 rfl rfl rfl) ?_
  refine aSims_c (i := 8) (s_iload_n hC dX6_readyPupils_12 rfl rfl) ?_
  refine aSims_c (i := 9) (s_iconst hC dX6_readyPupils_13 rfl rfl rfl) ?_
  refine aSims_c (i := 10) (s_icmp_ge hC dX6_readyPupils_14 rfl rfl rfl) ?_
  refine aSims_c (i := 11) (s_aload_n hC dX6_readyPupils_17 rfl rfl) ?_
  refine aSims_c (i := 12) (s_get hC dX6_readyPupils_18 rfl rfl w_444 rfl rfl inB6 (by decide)) ?_
  refine aSims_c (i := 13) (s_aload_n hC dX6_readyPupils_21 rfl rfl) ?_
  refine aSims_c (i := 14) (s_get hC dX6_readyPupils_22 rfl rfl w_445 rfl rfl inB6 (by decide)) ?_
  refine aSims_c (i := 15) (s_iload_n hC dX6_readyPupils_25 rfl rfl) ?_
  refine aSims_c (i := 16) (s_aaload hC dX6_readyPupils_26 rfl rfl) ?_
  refine aSims_c (i := 17) (s_callV (n := 1) hC dX6_readyPupils_27 rfl rfl (hE 61 _ _ _ _ rfl) (hF _ (by decide)) w_526 w_523 w_524 w_525 w_107 rfl (by decide +kernel)) ?_
  refine aSims_c (i := 18) (s_if_eq hC dX6_readyPupils_30 rfl rfl rfl) ?_
  refine aSims_c (i := 19) (s_iinc hC dX6_readyPupils_33 rfl rfl) ?_
  refine aSims_c (i := 20) (s_iinc hC dX6_readyPupils_36 rfl rfl) ?_
  refine aSims_c (i := 21) (s_goto hC dX6_readyPupils_39 rfl rfl) ?_
  refine aSims_c (i := 22) (s_iload_n hC dX6_readyPupils_42 rfl rfl) ?_
  refine aSims_c (i := 23) (s_iret hC dX6_readyPupils_43 rfl hr hlk nar_qI) ?_
  exact aSims_n
set_option maxHeartbeats 4000000 in
set_option maxRecDepth 20000 in
theorem sm_X6_best (hC : aC p s m args c cX6_best 4 RX6 D cA ad bs n0 H0 X) (hF : ∀ ml, ml ≤ 41 → aFit R d ml) (hRm : 16 ≤ R.frames ∧ 1000 ≤ R.locals) (hE : aCalls l D cA ad bs X d E) (hr : meth.sig.returnType = (some .int)) (hlk : meth.locks = false) : aSims (fun f i => aSim p l e R s m args below meth c (aEnd below s args D cA ad bs n0 z0 rv hf) 4 D cA ad bs n0 z0 H0 (apc pc_X6_best) rv hf E f i) (cd_X6_best) 0 := by
  unfold cd_X6_best
  refine aSims_c (i := 0) (s_aload_n hC dX6_best_0 rfl rfl) ?_
  refine aSims_c (i := 1) (s_iload_n hC dX6_best_1 rfl rfl) ?_
  refine aSims_c (i := 2) (s_callV (n := 1) hC dX6_best_2 rfl rfl (hE 103 _ _ _ _ rfl) (hF _ (by decide)) w_493 w_490 w_492 w_17 w_96 rfl (by decide +kernel)) ?_
  refine aSims_c (i := 3) (s_astore_n hC dX6_best_5 rfl rfl) ?_
  refine aSims_c (i := 4) (s_aload_n hC dX6_best_6 rfl rfl) ?_
  refine aSims_c (i := 5) (s_ifnull hC dX6_best_7 rfl rfl rfl) ?_
  refine aSims_c (i := 6) (s_iload_n hC dX6_best_10 rfl rfl) ?_
  refine aSims_c (i := 7) (s_if_lt hC dX6_best_11 rfl rfl rfl) ?_
  refine aSims_c (i := 8) (s_iload_n hC dX6_best_14 rfl rfl) ?_
  refine aSims_c (i := 9) (s_iconst hC dX6_best_15 rfl rfl rfl) ?_
  refine aSims_c (i := 10) (s_icmp_le hC dX6_best_16 rfl rfl rfl) ?_
  refine aSims_c (i := 11) (s_bipush hC dX6_best_19 rfl rfl rfl) ?_
  refine aSims_c (i := 12) (s_iret hC dX6_best_21 rfl hr hlk nar_qI) ?_
  refine aSims_c (i := 13) (s_aload_n hC dX6_best_22 rfl rfl) ?_
  refine aSims_c (i := 14) (s_get hC dX6_best_23 rfl rfl w_450 rfl rfl inB6 (by decide)) ?_
  refine aSims_c (i := 15) (s_aload_n hC dX6_best_26 rfl rfl) ?_
  refine aSims_c (i := 16) (s_get hC dX6_best_27 rfl rfl w_444 rfl rfl inB6 (by decide)) ?_
  refine aSims_c (i := 17) (s_aload_n hC dX6_best_30 rfl rfl) ?_
  refine aSims_c (i := 18) (s_iload_n hC dX6_best_31 rfl rfl) ?_
  refine aSims_c (i := 19) (s_if_ne hC dX6_best_32 rfl rfl rfl) ?_
  refine aSims_c (i := 20) (s_iconst hC dX6_best_35 rfl rfl rfl) ?_
  refine aSims_c (i := 21) (s_goto hC dX6_best_36 rfl rfl) ?_
  refine aSims_c (i := 22) (s_iconst hC dX6_best_39 rfl rfl rfl) ?_
  refine aSims_c (i := 23) (s_callV (n := 3) hC dX6_best_40 rfl rfl (hE 45 _ _ _ _ rfl) (hF _ (by decide)) w_640 w_637 w_638 w_639 w_108 rfl (by decide +kernel)) ?_
  refine aSims_c (i := 24) (s_iret hC dX6_best_43 rfl hr hlk nar_qI) ?_
  exact aSims_n
set_option maxHeartbeats 4000000 in
set_option maxRecDepth 20000 in
theorem sm_X6_hours (hC : aC p s m args c cX6_hours 6 RX6 D cA ad bs n0 H0 X) (hF : ∀ ml, ml ≤ 41 → aFit R d ml) (hRm : 16 ≤ R.frames ∧ 1000 ≤ R.locals) (hE : aCalls l D cA ad bs X d E) (hr : meth.sig.returnType = (some .int)) (hlk : meth.locks = false) : aSims (fun f i => aSim p l e R s m args below meth c (aEnd below s args D cA ad bs n0 z0 rv hf) 6 D cA ad bs n0 z0 H0 (apc pc_X6_hours) rv hf E f i) (cd_X6_hours) 0 := by
  unfold cd_X6_hours
  refine aSims_c (i := 0) (s_aload_n hC dX6_hours_0 rfl rfl) ?_
  refine aSims_c (i := 1) (s_iload_n hC dX6_hours_1 rfl rfl) ?_
  refine aSims_c (i := 2) (s_callV (n := 1) hC dX6_hours_2 rfl rfl (hE 103 _ _ _ _ rfl) (hF _ (by decide)) w_493 w_490 w_492 w_17 w_96 rfl (by decide +kernel)) ?_
  refine aSims_c (i := 3) (s_astore hC dX6_hours_5 rfl rfl) ?_
  refine aSims_c (i := 4) (s_aload hC dX6_hours_7 rfl rfl) ?_
  refine aSims_c (i := 5) (s_ifnull hC dX6_hours_9 rfl rfl rfl) ?_
  refine aSims_c (i := 6) (s_iload_n hC dX6_hours_12 rfl rfl) ?_
  refine aSims_c (i := 7) (s_if_lt hC dX6_hours_13 rfl rfl rfl) ?_
  refine aSims_c (i := 8) (s_iload_n hC dX6_hours_16 rfl rfl) ?_
  refine aSims_c (i := 9) (s_iconst hC dX6_hours_17 rfl rfl rfl) ?_
  refine aSims_c (i := 10) (s_icmp_gt hC dX6_hours_18 rfl rfl rfl) ?_
  refine aSims_c (i := 11) (s_iload_n hC dX6_hours_21 rfl rfl) ?_
  refine aSims_c (i := 12) (s_callS hC dX6_hours_22 rfl rfl (hE 107 _ _ _ _ rfl) (hF _ (by decide)) w_612 w_610 w_611 w_96 (by decide +kernel)) ?_
  refine aSims_c (i := 13) (s_if_eq hC dX6_hours_25 rfl rfl rfl) ?_
  refine aSims_c (i := 14) (s_iload hC dX6_hours_28 rfl rfl) ?_
  refine aSims_c (i := 15) (s_if_lt hC dX6_hours_30 rfl rfl rfl) ?_
  refine aSims_c (i := 16) (s_iload hC dX6_hours_33 rfl rfl) ?_
  refine aSims_c (i := 17) (s_iconst hC dX6_hours_35 rfl rfl rfl) ?_
  refine aSims_c (i := 18) (s_icmp_le hC dX6_hours_36 rfl rfl rfl) ?_
  refine aSims_c (i := 19) (s_bipush hC dX6_hours_39 rfl rfl rfl) ?_
  refine aSims_c (i := 20) (s_iret hC dX6_hours_41 rfl hr hlk nar_qI) ?_
  refine aSims_c (i := 21) (s_aload_n hC dX6_hours_42 rfl rfl) ?_
  refine aSims_c (i := 22) (s_get hC dX6_hours_43 rfl rfl w_450 rfl rfl inB6 (by decide)) ?_
  refine aSims_c (i := 23) (s_aload_n hC dX6_hours_46 rfl rfl) ?_
  refine aSims_c (i := 24) (s_get hC dX6_hours_47 rfl rfl w_444 rfl rfl inB6 (by decide)) ?_
  refine aSims_c (i := 25) (s_aload hC dX6_hours_50 rfl rfl) ?_
  refine aSims_c (i := 26) (s_callV (n := 2) hC dX6_hours_52 rfl rfl (hE 46 _ _ _ _ rfl) (hF _ (by decide)) w_667 w_664 w_665 w_666 w_108 rfl (by decide +kernel)) ?_
  refine aSims_c (i := 27) (s_aload_n hC dX6_hours_55 rfl rfl) ?_
  refine aSims_c (i := 28) (s_get hC dX6_hours_56 rfl rfl w_450 rfl rfl inB6 (by decide)) ?_
  refine aSims_c (i := 29) (s_iconst hC dX6_hours_59 rfl rfl rfl) ?_
  refine aSims_c (i := 30) (s_iload_n hC dX6_hours_60 rfl rfl) ?_
  refine aSims_c (i := 31) (s_iload_n hC dX6_hours_61 rfl rfl) ?_
  refine aSims_c (i := 32) (s_iconst hC dX6_hours_62 rfl rfl rfl) ?_
  refine aSims_c (i := 33) (s_callVN (n := 4) hC dX6_hours_63 rfl rfl (hE 47 _ _ _ _ rfl) (hF _ (by decide)) w_671 hC.2.2.2.2.2.2.2.2.1.1.2.2.1 w_670 w_22 w_108 rfl (by decide +kernel)) ?_
  refine aSims_c (i := 34) (s_iload hC dX6_hours_66 rfl rfl) ?_
  refine aSims_c (i := 35) (s_if_ne hC dX6_hours_68 rfl rfl rfl) ?_
  refine aSims_c (i := 36) (s_aload_n hC dX6_hours_71 rfl rfl) ?_
  refine aSims_c (i := 37) (s_get hC dX6_hours_72 rfl rfl w_450 rfl rfl inB6 (by decide)) ?_
  refine aSims_c (i := 38) (s_get hC dX6_hours_75 rfl rfl w_422 rfl rfl inB4 (by decide)) ?_
  refine aSims_c (i := 39) (s_iret hC dX6_hours_78 rfl hr hlk nar_qI) ?_
  refine aSims_c (i := 40) (s_iload hC dX6_hours_79 rfl rfl) ?_
  refine aSims_c (i := 41) (s_iconst hC dX6_hours_81 rfl rfl rfl) ?_
  refine aSims_c (i := 42) (s_icmp_ne hC dX6_hours_82 rfl rfl rfl) ?_
  refine aSims_c (i := 43) (s_aload_n hC dX6_hours_85 rfl rfl) ?_
  refine aSims_c (i := 44) (s_get hC dX6_hours_86 rfl rfl w_450 rfl rfl inB6 (by decide)) ?_
  refine aSims_c (i := 45) (s_get hC dX6_hours_89 rfl rfl w_424 rfl rfl inB4 (by decide)) ?_
  refine aSims_c (i := 46) (s_goto hC dX6_hours_92 rfl rfl) ?_
  refine aSims_c (i := 47) (s_aload_n hC dX6_hours_95 rfl rfl) ?_
  refine aSims_c (i := 48) (s_get hC dX6_hours_96 rfl rfl w_450 rfl rfl inB6 (by decide)) ?_
  refine aSims_c (i := 49) (s_get hC dX6_hours_99 rfl rfl w_426 rfl rfl inB4 (by decide)) ?_
  refine aSims_c (i := 50) (s_iret hC dX6_hours_102 rfl hr hlk nar_qI) ?_
  exact aSims_n
set_option maxHeartbeats 4000000 in
set_option maxRecDepth 20000 in
theorem sm_X6_takes (hC : aC p s m args c cX6_takes 5 RX6 D cA ad bs n0 H0 X) (hF : ∀ ml, ml ≤ 41 → aFit R d ml) (hRm : 16 ≤ R.frames ∧ 1000 ≤ R.locals) (hE : aCalls l D cA ad bs X d E) (hr : meth.sig.returnType = (some .int)) (hlk : meth.locks = false) : aSims (fun f i => aSim p l e R s m args below meth c (aEnd below s args D cA ad bs n0 z0 rv hf) 5 D cA ad bs n0 z0 H0 (apc pc_X6_takes) rv hf E f i) (cd_X6_takes) 0 := by
  unfold cd_X6_takes
  refine aSims_c (i := 0) (s_aload_n hC dX6_takes_0 rfl rfl) ?_
  refine aSims_c (i := 1) (s_iload_n hC dX6_takes_1 rfl rfl) ?_
  refine aSims_c (i := 2) (s_callV (n := 1) hC dX6_takes_2 rfl rfl (hE 103 _ _ _ _ rfl) (hF _ (by decide)) w_493 w_490 w_492 w_17 w_96 rfl (by decide +kernel)) ?_
  refine aSims_c (i := 3) (s_astore hC dX6_takes_5 rfl rfl) ?_
  refine aSims_c (i := 4) (s_aload hC dX6_takes_7 rfl rfl) ?_
  refine aSims_c (i := 5) (s_ifnull hC dX6_takes_9 rfl rfl rfl) ?_
  refine aSims_c (i := 6) (s_iload_n hC dX6_takes_12 rfl rfl) ?_
  refine aSims_c (i := 7) (s_callS hC dX6_takes_13 rfl rfl (hE 107 _ _ _ _ rfl) (hF _ (by decide)) w_612 w_610 w_611 w_96 (by decide +kernel)) ?_
  refine aSims_c (i := 8) (s_if_eq hC dX6_takes_16 rfl rfl rfl) ?_
  refine aSims_c (i := 9) (s_iload_n hC dX6_takes_19 rfl rfl) ?_
  refine aSims_c (i := 10) (s_iconst hC dX6_takes_20 rfl rfl rfl) ?_
  refine aSims_c (i := 11) (s_icmp_lt hC dX6_takes_21 rfl rfl rfl) ?_
  refine aSims_c (i := 12) (s_iload_n hC dX6_takes_24 rfl rfl) ?_
  refine aSims_c (i := 13) (s_bipush hC dX6_takes_25 rfl rfl rfl) ?_
  refine aSims_c (i := 14) (s_icmp_le hC dX6_takes_27 rfl rfl rfl) ?_
  refine aSims_c (i := 15) (s_bipush hC dX6_takes_30 rfl rfl rfl) ?_
  refine aSims_c (i := 16) (s_iret hC dX6_takes_32 rfl hr hlk nar_qI) ?_
  refine aSims_c (i := 17) (s_aload_n hC dX6_takes_33 rfl rfl) ?_
  refine aSims_c (i := 18) (s_get hC dX6_takes_34 rfl rfl w_450 rfl rfl inB6 (by decide)) ?_
  refine aSims_c (i := 19) (s_aload_n hC dX6_takes_37 rfl rfl) ?_
  refine aSims_c (i := 20) (s_get hC dX6_takes_38 rfl rfl w_444 rfl rfl inB6 (by decide)) ?_
  refine aSims_c (i := 21) (s_aload hC dX6_takes_41 rfl rfl) ?_
  refine aSims_c (i := 22) (s_iload_n hC dX6_takes_43 rfl rfl) ?_
  refine aSims_c (i := 23) (s_iload_n hC dX6_takes_44 rfl rfl) ?_
  refine aSims_c (i := 24) (s_callV (n := 4) hC dX6_takes_45 rfl rfl (hE 48 _ _ _ _ rfl) (hF _ (by decide)) w_681 w_678 w_679 w_680 w_108 rfl (by decide +kernel)) ?_
  refine aSims_c (i := 25) (s_iret hC dX6_takes_48 rfl hr hlk nar_qI) ?_
  exact aSims_n
set_option maxHeartbeats 4000000 in
set_option maxRecDepth 20000 in
theorem sm_X6_late (hC : aC p s m args c cX6_late 4 RX6 D cA ad bs n0 H0 X) (hF : ∀ ml, ml ≤ 41 → aFit R d ml) (hRm : 16 ≤ R.frames ∧ 1000 ≤ R.locals) (hE : aCalls l D cA ad bs X d E) (hr : meth.sig.returnType = (some .int)) (hlk : meth.locks = false) : aSims (fun f i => aSim p l e R s m args below meth c (aEnd below s args D cA ad bs n0 z0 rv hf) 4 D cA ad bs n0 z0 H0 (apc pc_X6_late) rv hf E f i) (cd_X6_late) 0 := by
  unfold cd_X6_late
  refine aSims_c (i := 0) (s_aload_n hC dX6_late_0 rfl rfl) ?_
  refine aSims_c (i := 1) (s_iload_n hC dX6_late_1 rfl rfl) ?_
  refine aSims_c (i := 2) (s_callV (n := 1) hC dX6_late_2 rfl rfl (hE 103 _ _ _ _ rfl) (hF _ (by decide)) w_493 w_490 w_492 w_17 w_96 rfl (by decide +kernel)) ?_
  refine aSims_c (i := 3) (s_astore_n hC dX6_late_5 rfl rfl) ?_
  refine aSims_c (i := 4) (s_aload_n hC dX6_late_6 rfl rfl) ?_
  refine aSims_c (i := 5) (s_ifnull hC dX6_late_7 rfl rfl rfl) ?_
  refine aSims_c (i := 6) (s_iload_n hC dX6_late_10 rfl rfl) ?_
  refine aSims_c (i := 7) (s_callS hC dX6_late_11 rfl rfl (hE 106 _ _ _ _ rfl) (hF _ (by decide)) w_489 w_487 w_488 w_96 (by decide +kernel)) ?_
  refine aSims_c (i := 8) (s_if_ne hC dX6_late_14 rfl rfl rfl) ?_
  refine aSims_c (i := 9) (s_bipush hC dX6_late_17 rfl rfl rfl) ?_
  refine aSims_c (i := 10) (s_iret hC dX6_late_19 rfl hr hlk nar_qI) ?_
  refine aSims_c (i := 11) (s_aload_n hC dX6_late_20 rfl rfl) ?_
  refine aSims_c (i := 12) (s_get hC dX6_late_21 rfl rfl w_450 rfl rfl inB6 (by decide)) ?_
  refine aSims_c (i := 13) (s_aload_n hC dX6_late_24 rfl rfl) ?_
  refine aSims_c (i := 14) (s_get hC dX6_late_25 rfl rfl w_444 rfl rfl inB6 (by decide)) ?_
  refine aSims_c (i := 15) (s_aload_n hC dX6_late_28 rfl rfl) ?_
  refine aSims_c (i := 16) (s_iload_n hC dX6_late_29 rfl rfl) ?_
  refine aSims_c (i := 17) (s_callV (n := 3) hC dX6_late_30 rfl rfl (hE 50 _ _ _ _ rfl) (hF _ (by decide)) w_699 w_696 w_697 w_698 w_108 rfl (by decide +kernel)) ?_
  refine aSims_c (i := 18) (s_iret hC dX6_late_33 rfl hr hlk nar_qI) ?_
  exact aSims_n
set_option maxHeartbeats 4000000 in
set_option maxRecDepth 20000 in
theorem sm_X6_gap (hC : aC p s m args c cX6_gap 5 RX6 D cA ad bs n0 H0 X) (hF : ∀ ml, ml ≤ 41 → aFit R d ml) (hRm : 16 ≤ R.frames ∧ 1000 ≤ R.locals) (hE : aCalls l D cA ad bs X d E) (hr : meth.sig.returnType = (some .int)) (hlk : meth.locks = false) : aSims (fun f i => aSim p l e R s m args below meth c (aEnd below s args D cA ad bs n0 z0 rv hf) 5 D cA ad bs n0 z0 H0 (apc pc_X6_gap) rv hf E f i) (cd_X6_gap) 0 := by
  unfold cd_X6_gap
  refine aSims_c (i := 0) (s_aload_n hC dX6_gap_0 rfl rfl) ?_
  refine aSims_c (i := 1) (s_iload_n hC dX6_gap_1 rfl rfl) ?_
  refine aSims_c (i := 2) (s_callV (n := 1) hC dX6_gap_2 rfl rfl (hE 103 _ _ _ _ rfl) (hF _ (by decide)) w_493 w_490 w_492 w_17 w_96 rfl (by decide +kernel)) ?_
  refine aSims_c (i := 3) (s_astore_n hC dX6_gap_5 rfl rfl) ?_
  refine aSims_c (i := 4) (s_aload_n hC dX6_gap_6 rfl rfl) ?_
  refine aSims_c (i := 5) (s_ifnull hC dX6_gap_7 rfl rfl rfl) ?_
  refine aSims_c (i := 6) (s_iload_n hC dX6_gap_10 rfl rfl) ?_
  refine aSims_c (i := 7) (s_if_lt hC dX6_gap_11 rfl rfl rfl) ?_
  refine aSims_c (i := 8) (s_iload_n hC dX6_gap_14 rfl rfl) ?_
  refine aSims_c (i := 9) (s_iconst hC dX6_gap_15 rfl rfl rfl) ?_
  refine aSims_c (i := 10) (s_icmp_le hC dX6_gap_16 rfl rfl rfl) ?_
  refine aSims_c (i := 11) (s_sipush hC dX6_gap_19 rfl rfl rfl) ?_
  refine aSims_c (i := 12) (s_iret hC dX6_gap_22 rfl hr hlk nar_qI) ?_
  refine aSims_c (i := 13) (s_aload_n hC dX6_gap_23 rfl rfl) ?_
  refine aSims_c (i := 14) (s_get hC dX6_gap_24 rfl rfl w_444 rfl rfl inB6 (by decide)) ?_
  refine aSims_c (i := 15) (s_aload_n hC dX6_gap_27 rfl rfl) ?_
  refine aSims_c (i := 16) (s_callV (n := 1) hC dX6_gap_28 rfl rfl (hE 62 _ _ _ _ rfl) (hF _ (by decide)) w_708 w_705 w_706 w_707 w_107 rfl (by decide +kernel)) ?_
  refine aSims_c (i := 17) (s_istore hC dX6_gap_31 rfl rfl) ?_
  refine aSims_c (i := 18) (s_iload_n hC dX6_gap_33 rfl rfl) ?_
  refine aSims_c (i := 19) (s_if_ne hC dX6_gap_34 rfl rfl rfl) ?_
  refine aSims_c (i := 20) (s_iload hC dX6_gap_37 rfl rfl) ?_
  refine aSims_c (i := 21) (s_goto hC dX6_gap_39 rfl rfl) ?_
  refine aSims_c (i := 22) (s_aload_n hC dX6_gap_42 rfl rfl) ?_
  refine aSims_c (i := 23) (s_get hC dX6_gap_43 rfl rfl w_444 rfl rfl inB6 (by decide)) ?_
  refine aSims_c (i := 24) (s_aload_n hC dX6_gap_46 rfl rfl) ?_
  refine aSims_c (i := 25) (s_iload hC dX6_gap_47 rfl rfl) ?_
  refine aSims_c (i := 26) (s_callV (n := 2) hC dX6_gap_49 rfl rfl (hE 59 _ _ _ _ rfl) (hF _ (by decide)) w_530 w_566 w_528 w_529 w_107 rfl (by decide +kernel)) ?_
  refine aSims_c (i := 27) (s_iret hC dX6_gap_52 rfl hr hlk nar_qI) ?_
  exact aSims_n
set_option maxHeartbeats 4000000 in
set_option maxRecDepth 20000 in
theorem sm_X6_faded (hC : aC p s m args c cX6_faded 4 RX6 D cA ad bs n0 H0 X) (hF : ∀ ml, ml ≤ 41 → aFit R d ml) (hRm : 16 ≤ R.frames ∧ 1000 ≤ R.locals) (hE : aCalls l D cA ad bs X d E) (hr : meth.sig.returnType = (some .int)) (hlk : meth.locks = false) : aSims (fun f i => aSim p l e R s m args below meth c (aEnd below s args D cA ad bs n0 z0 rv hf) 4 D cA ad bs n0 z0 H0 (apc pc_X6_faded) rv hf E f i) (cd_X6_faded) 0 := by
  unfold cd_X6_faded
  refine aSims_c (i := 0) (s_aload_n hC dX6_faded_0 rfl rfl) ?_
  refine aSims_c (i := 1) (s_iload_n hC dX6_faded_1 rfl rfl) ?_
  refine aSims_c (i := 2) (s_callV (n := 1) hC dX6_faded_2 rfl rfl (hE 103 _ _ _ _ rfl) (hF _ (by decide)) w_493 w_490 w_492 w_17 w_96 rfl (by decide +kernel)) ?_
  refine aSims_c (i := 3) (s_astore_n hC dX6_faded_5 rfl rfl) ?_
  refine aSims_c (i := 4) (s_aload_n hC dX6_faded_6 rfl rfl) ?_
  refine aSims_c (i := 5) (s_ifnull hC dX6_faded_7 rfl rfl rfl) ?_
  refine aSims_c (i := 6) (s_iload_n hC dX6_faded_10 rfl rfl) ?_
  refine aSims_c (i := 7) (s_if_lt hC dX6_faded_11 rfl rfl rfl) ?_
  refine aSims_c (i := 8) (s_iload_n hC dX6_faded_14 rfl rfl) ?_
  refine aSims_c (i := 9) (s_bipush hC dX6_faded_15 rfl rfl rfl) ?_
  refine aSims_c (i := 10) (s_icmp_le hC dX6_faded_17 rfl rfl rfl) ?_
  refine aSims_c (i := 11) (s_bipush hC dX6_faded_20 rfl rfl rfl) ?_
  refine aSims_c (i := 12) (s_iret hC dX6_faded_22 rfl hr hlk nar_qI) ?_
  refine aSims_c (i := 13) (s_aload_n hC dX6_faded_23 rfl rfl) ?_
  refine aSims_c (i := 14) (s_get hC dX6_faded_24 rfl rfl w_450 rfl rfl inB6 (by decide)) ?_
  refine aSims_c (i := 15) (s_aload_n hC dX6_faded_27 rfl rfl) ?_
  refine aSims_c (i := 16) (s_get hC dX6_faded_28 rfl rfl w_444 rfl rfl inB6 (by decide)) ?_
  refine aSims_c (i := 17) (s_aload_n hC dX6_faded_31 rfl rfl) ?_
  refine aSims_c (i := 18) (s_iload_n hC dX6_faded_32 rfl rfl) ?_
  refine aSims_c (i := 19) (s_callV (n := 3) hC dX6_faded_33 rfl rfl (hE 51 _ _ _ _ rfl) (hF _ (by decide)) w_716 w_713 w_714 w_715 w_108 rfl (by decide +kernel)) ?_
  refine aSims_c (i := 20) (s_iret hC dX6_faded_36 rfl hr hlk nar_qI) ?_
  exact aSims_n
end SIM
