theorem dX6_limit_31 : decode cX6_limit 31 = .ok (.invokevirtual 150, 3) := by decide +kernel
theorem dX6_limit_34 : decode cX6_limit 34 = .ok (.return_, 1) := by decide +kernel
theorem dX6_check_0 : decode cX6_check 0 = .ok (.aload_n 0, 1) := by decide +kernel
theorem dX6_check_1 : decode cX6_check 1 = .ok (.iload_n 1, 1) := by decide +kernel
theorem dX6_check_2 : decode cX6_check 2 = .ok (.invokevirtual 154, 3) := by decide +kernel
theorem dX6_check_5 : decode cX6_check 5 = .ok (.getfield 157, 3) := by decide +kernel
theorem dX6_check_8 : decode cX6_check 8 = .ok (.ireturn, 1) := by decide +kernel
theorem dX6_wet_0 : decode cX6_wet 0 = .ok (.aload_n 0, 1) := by decide +kernel
theorem dX6_wet_1 : decode cX6_wet 1 = .ok (.iload_n 1, 1) := by decide +kernel
theorem dX6_wet_2 : decode cX6_wet 2 = .ok (.invokevirtual 66, 3) := by decide +kernel
theorem dX6_wet_5 : decode cX6_wet 5 = .ok (.astore_n 3, 1) := by decide +kernel
theorem dX6_wet_6 : decode cX6_wet 6 = .ok (.aload_n 0, 1) := by decide +kernel
theorem dX6_wet_7 : decode cX6_wet 7 = .ok (.iload_n 2, 1) := by decide +kernel
theorem dX6_wet_8 : decode cX6_wet 8 = .ok (.invokevirtual 111, 3) := by decide +kernel
theorem dX6_wet_11 : decode cX6_wet 11 = .ok (.aload_n 3, 1) := by decide +kernel
theorem dX6_wet_12 : decode cX6_wet 12 = .ok (.invokestatic 115, 3) := by decide +kernel
theorem dX6_wet_15 : decode cX6_wet 15 = .ok (.aload_n 3, 1) := by decide +kernel
theorem dX6_wet_16 : decode cX6_wet 16 = .ok (.getfield 119, 3) := by decide +kernel
theorem dX6_wet_19 : decode cX6_wet 19 = .ok (.iload_n 2, 1) := by decide +kernel
theorem dX6_wet_20 : decode cX6_wet 20 = .ok (.daload, 1) := by decide +kernel
theorem dX6_wet_21 : decode cX6_wet 21 = .ok (.dreturn, 1) := by decide +kernel
theorem dX6_mean_0 : decode cX6_mean 0 = .ok (.aload_n 0, 1) := by decide +kernel
theorem dX6_mean_1 : decode cX6_mean 1 = .ok (.iload_n 1, 1) := by decide +kernel
theorem dX6_mean_2 : decode cX6_mean 2 = .ok (.invokevirtual 154, 3) := by decide +kernel
theorem dX6_mean_5 : decode cX6_mean 5 = .ok (.invokevirtual 160, 3) := by decide +kernel
theorem dX6_mean_8 : decode cX6_mean 8 = .ok (.dreturn, 1) := by decide +kernel
theorem dX6_stress_0 : decode cX6_stress 0 = .ok (.aload_n 0, 1) := by decide +kernel
theorem dX6_stress_1 : decode cX6_stress 1 = .ok (.iload_n 1, 1) := by decide +kernel
theorem dX6_stress_2 : decode cX6_stress 2 = .ok (.invokevirtual 66, 3) := by decide +kernel
theorem dX6_stress_5 : decode cX6_stress 5 = .ok (.astore_n 3, 1) := by decide +kernel
theorem dX6_stress_6 : decode cX6_stress 6 = .ok (.aload_n 0, 1) := by decide +kernel
theorem dX6_stress_7 : decode cX6_stress 7 = .ok (.iload_n 2, 1) := by decide +kernel
theorem dX6_stress_8 : decode cX6_stress 8 = .ok (.invokevirtual 111, 3) := by decide +kernel
theorem dX6_stress_11 : decode cX6_stress 11 = .ok (.aload_n 3, 1) := by decide +kernel
theorem dX6_stress_12 : decode cX6_stress 12 = .ok (.invokestatic 115, 3) := by decide +kernel
theorem dX6_stress_15 : decode cX6_stress 15 = .ok (.aload_n 3, 1) := by decide +kernel
theorem dX6_stress_16 : decode cX6_stress 16 = .ok (.getfield 119, 3) := by decide +kernel
theorem dX6_stress_19 : decode cX6_stress 19 = .ok (.iload_n 2, 1) := by decide +kernel
theorem dX6_stress_20 : decode cX6_stress 20 = .ok (.daload, 1) := by decide +kernel
theorem dX6_stress_21 : decode cX6_stress 21 = .ok (.invokestatic 164, 3) := by decide +kernel
theorem dX6_stress_24 : decode cX6_stress 24 = .ok (.aload_n 3, 1) := by decide +kernel
theorem dX6_stress_25 : decode cX6_stress 25 = .ok (.invokevirtual 168, 3) := by decide +kernel
theorem dX6_stress_28 : decode cX6_stress 28 = .ok (.dsub, 1) := by decide +kernel
theorem dX6_stress_29 : decode cX6_stress 29 = .ok (.dreturn, 1) := by decide +kernel
theorem dX6_balance_0 : decode cX6_balance 0 = .ok (.aload_n 0, 1) := by decide +kernel
theorem dX6_balance_1 : decode cX6_balance 1 = .ok (.getfield 41, 3) := by decide +kernel
theorem dX6_balance_4 : decode cX6_balance 4 = .ok (.invokevirtual 171, 3) := by decide +kernel
theorem dX6_balance_7 : decode cX6_balance 7 = .ok (.dreturn, 1) := by decide +kernel
theorem dX6_told_0 : decode cX6_told 0 = .ok (.iload_n 1, 1) := by decide +kernel
theorem dX6_told_1 : decode cX6_told 1 = .ok (.tableswitch 75 0 4 #[35, 43, 51, 59, 67], 35) := by decide +kernel
theorem dX6_told_36 : decode cX6_told 36 = .ok (.aload_n 0, 1) := by decide +kernel
theorem dX6_told_37 : decode cX6_told 37 = .ok (.getfield 41, 3) := by decide +kernel
theorem dX6_told_40 : decode cX6_told 40 = .ok (.getfield 99, 3) := by decide +kernel
theorem dX6_told_43 : decode cX6_told 43 = .ok (.dreturn, 1) := by decide +kernel
theorem dX6_told_44 : decode cX6_told 44 = .ok (.aload_n 0, 1) := by decide +kernel
theorem dX6_told_45 : decode cX6_told 45 = .ok (.getfield 41, 3) := by decide +kernel
theorem dX6_told_48 : decode cX6_told 48 = .ok (.getfield 102, 3) := by decide +kernel
theorem dX6_told_51 : decode cX6_told 51 = .ok (.dreturn, 1) := by decide +kernel
theorem dX6_told_52 : decode cX6_told 52 = .ok (.aload_n 0, 1) := by decide +kernel
theorem dX6_told_53 : decode cX6_told 53 = .ok (.getfield 41, 3) := by decide +kernel
theorem dX6_told_56 : decode cX6_told 56 = .ok (.getfield 105, 3) := by decide +kernel
theorem dX6_told_59 : decode cX6_told 59 = .ok (.dreturn, 1) := by decide +kernel
theorem dX6_told_60 : decode cX6_told 60 = .ok (.aload_n 0, 1) := by decide +kernel
theorem dX6_told_61 : decode cX6_told 61 = .ok (.getfield 41, 3) := by decide +kernel
theorem dX6_told_64 : decode cX6_told 64 = .ok (.getfield 108, 3) := by decide +kernel
theorem dX6_told_67 : decode cX6_told 67 = .ok (.dreturn, 1) := by decide +kernel
theorem dX6_told_68 : decode cX6_told 68 = .ok (.aload_n 0, 1) := by decide +kernel
theorem dX6_told_69 : decode cX6_told 69 = .ok (.getfield 48, 3) := by decide +kernel
theorem dX6_told_72 : decode cX6_told 72 = .ok (.getfield 174, 3) := by decide +kernel
theorem dX6_told_75 : decode cX6_told 75 = .ok (.dreturn, 1) := by decide +kernel
theorem dX6_told_76 : decode cX6_told 76 = .ok (.new 177, 3) := by decide +kernel
theorem dX6_told_79 : decode cX6_told 79 = .ok (.dup, 1) := by decide +kernel
theorem dX6_told_80 : decode cX6_told 80 = .ok (.ldc 179, 2) := by decide +kernel
theorem dX6_told_82 : decode cX6_told 82 = .ok (.invokespecial 181, 3) := by decide +kernel
theorem dX6_told_85 : decode cX6_told 85 = .ok (.athrow, 1) := by decide +kernel
theorem dX6_grams_0 : decode cX6_grams 0 = .ok (.aload_n 0, 1) := by decide +kernel
theorem dX6_grams_1 : decode cX6_grams 1 = .ok (.getfield 48, 3) := by decide +kernel
theorem dX6_grams_4 : decode cX6_grams 4 = .ok (.getfield 182, 3) := by decide +kernel
theorem dX6_grams_7 : decode cX6_grams 7 = .ok (.lreturn, 1) := by decide +kernel
theorem dX6_count_0 : decode cX6_count 0 = .ok (.iload_n 1, 1) := by decide +kernel
theorem dX6_count_1 : decode cX6_count 1 = .ok (.tableswitch 45 0 2 #[27, 32, 40], 27) := by decide +kernel
theorem dX6_count_28 : decode cX6_count 28 = .ok (.aload_n 0, 1) := by decide +kernel
theorem dX6_count_29 : decode cX6_count 29 = .ok (.getfield 142, 3) := by decide +kernel
theorem dX6_count_32 : decode cX6_count 32 = .ok (.ireturn, 1) := by decide +kernel
theorem dX6_count_33 : decode cX6_count 33 = .ok (.aload_n 0, 1) := by decide +kernel
theorem dX6_count_34 : decode cX6_count 34 = .ok (.getfield 62, 3) := by decide +kernel
theorem dX6_count_37 : decode cX6_count 37 = .ok (.getfield 186, 3) := by decide +kernel
theorem dX6_count_40 : decode cX6_count 40 = .ok (.ireturn, 1) := by decide +kernel
theorem dX6_count_41 : decode cX6_count 41 = .ok (.aload_n 0, 1) := by decide +kernel
theorem dX6_count_42 : decode cX6_count 42 = .ok (.invokevirtual 189, 3) := by decide +kernel
theorem dX6_count_45 : decode cX6_count 45 = .ok (.ireturn, 1) := by decide +kernel
theorem dX6_count_46 : decode cX6_count 46 = .ok (.new 177, 3) := by decide +kernel
theorem dX6_count_49 : decode cX6_count 49 = .ok (.dup, 1) := by decide +kernel
theorem dX6_count_50 : decode cX6_count 50 = .ok (.ldc 193, 2) := by decide +kernel
theorem dX6_count_52 : decode cX6_count 52 = .ok (.invokespecial 181, 3) := by decide +kernel
theorem dX6_count_55 : decode cX6_count 55 = .ok (.athrow, 1) := by decide +kernel
theorem dX6_slotOf_0 : decode cX6_slotOf 0 = .ok (.iload_n 1, 1) := by decide +kernel
theorem dX6_slotOf_1 : decode cX6_slotOf 1 = .ok (.ifCond .lt 12, 3) := by decide +kernel
theorem dX6_slotOf_4 : decode cX6_slotOf 4 = .ok (.iload_n 1, 1) := by decide +kernel
theorem dX6_slotOf_5 : decode cX6_slotOf 5 = .ok (.aload_n 0, 1) := by decide +kernel
theorem dX6_slotOf_6 : decode cX6_slotOf 6 = .ok (.getfield 31, 3) := by decide +kernel
theorem dX6_slotOf_9 : decode cX6_slotOf 9 = .ok (.arraylength, 1) := by decide +kernel
theorem dX6_slotOf_10 : decode cX6_slotOf 10 = .ok (.if_icmp .lt 13, 3) := by decide +kernel
theorem dX6_slotOf_13 : decode cX6_slotOf 13 = .ok (.new 177, 3) := by decide +kernel
theorem dX6_slotOf_16 : decode cX6_slotOf 16 = .ok (.dup, 1) := by decide +kernel
theorem dX6_slotOf_17 : decode cX6_slotOf 17 = .ok (.ldc 195, 2) := by decide +kernel
theorem dX6_slotOf_19 : decode cX6_slotOf 19 = .ok (.invokespecial 181, 3) := by decide +kernel
theorem dX6_slotOf_22 : decode cX6_slotOf 22 = .ok (.athrow, 1) := by decide +kernel
theorem dX6_slotOf_23 : decode cX6_slotOf 23 = .ok (.aload_n 0, 1) := by decide +kernel
theorem dX6_slotOf_24 : decode cX6_slotOf 24 = .ok (.getfield 31, 3) := by decide +kernel
theorem dX6_slotOf_27 : decode cX6_slotOf 27 = .ok (.iload_n 1, 1) := by decide +kernel
theorem dX6_slotOf_28 : decode cX6_slotOf 28 = .ok (.aaload, 1) := by decide +kernel
theorem dX6_slotOf_29 : decode cX6_slotOf 29 = .ok (.areturn, 1) := by decide +kernel
theorem dX6_boardThere_0 : decode cX6_boardThere 0 = .ok (.aload_n 0, 1) := by decide +kernel
theorem dX6_boardThere_1 : decode cX6_boardThere 1 = .ok (.iload_n 1, 1) := by decide +kernel
theorem dX6_boardThere_2 : decode cX6_boardThere 2 = .ok (.invokevirtual 66, 3) := by decide +kernel
theorem dX6_boardThere_5 : decode cX6_boardThere 5 = .ok (.astore_n 2, 1) := by decide +kernel
theorem dX6_boardThere_6 : decode cX6_boardThere 6 = .ok (.aload_n 2, 1) := by decide +kernel
theorem dX6_boardThere_7 : decode cX6_boardThere 7 = .ok (.invokestatic 115, 3) := by decide +kernel
theorem dX6_boardThere_10 : decode cX6_boardThere 10 = .ok (.aload_n 2, 1) := by decide +kernel
theorem dX6_boardThere_11 : decode cX6_boardThere 11 = .ok (.areturn, 1) := by decide +kernel
theorem dX6_kindOf_0 : decode cX6_kindOf 0 = .ok (.iload_n 1, 1) := by decide +kernel
theorem dX6_kindOf_1 : decode cX6_kindOf 1 = .ok (.ifCond .lt 12, 3) := by decide +kernel
theorem dX6_kindOf_4 : decode cX6_kindOf 4 = .ok (.iload_n 1, 1) := by decide +kernel
theorem dX6_kindOf_5 : decode cX6_kindOf 5 = .ok (.aload_n 0, 1) := by decide +kernel
theorem dX6_kindOf_6 : decode cX6_kindOf 6 = .ok (.getfield 24, 3) := by decide +kernel
theorem dX6_kindOf_9 : decode cX6_kindOf 9 = .ok (.arraylength, 1) := by decide +kernel
theorem dX6_kindOf_10 : decode cX6_kindOf 10 = .ok (.if_icmp .lt 13, 3) := by decide +kernel
theorem dX6_kindOf_13 : decode cX6_kindOf 13 = .ok (.new 177, 3) := by decide +kernel
theorem dX6_kindOf_16 : decode cX6_kindOf 16 = .ok (.dup, 1) := by decide +kernel
theorem dX6_kindOf_17 : decode cX6_kindOf 17 = .ok (.ldc 197, 2) := by decide +kernel
theorem dX6_kindOf_19 : decode cX6_kindOf 19 = .ok (.invokespecial 181, 3) := by decide +kernel
theorem dX6_kindOf_22 : decode cX6_kindOf 22 = .ok (.athrow, 1) := by decide +kernel
theorem dX6_kindOf_23 : decode cX6_kindOf 23 = .ok (.aload_n 0, 1) := by decide +kernel
theorem dX6_kindOf_24 : decode cX6_kindOf 24 = .ok (.getfield 24, 3) := by decide +kernel
theorem dX6_kindOf_27 : decode cX6_kindOf 27 = .ok (.iload_n 1, 1) := by decide +kernel
theorem dX6_kindOf_28 : decode cX6_kindOf 28 = .ok (.aaload, 1) := by decide +kernel
theorem dX6_kindOf_29 : decode cX6_kindOf 29 = .ok (.areturn, 1) := by decide +kernel
theorem dX6_requireLayer_0 : decode cX6_requireLayer 0 = .ok (.iload_n 1, 1) := by decide +kernel
theorem dX6_requireLayer_1 : decode cX6_requireLayer 1 = .ok (.ifCond .lt 11, 3) := by decide +kernel
theorem dX6_requireLayer_4 : decode cX6_requireLayer 4 = .ok (.iload_n 1, 1) := by decide +kernel
theorem dX6_requireLayer_5 : decode cX6_requireLayer 5 = .ok (.aload_n 0, 1) := by decide +kernel
theorem dX6_requireLayer_6 : decode cX6_requireLayer 6 = .ok (.getfield 18, 3) := by decide +kernel
theorem dX6_requireLayer_9 : decode cX6_requireLayer 9 = .ok (.if_icmp .lt 13, 3) := by decide +kernel
theorem dX6_requireLayer_12 : decode cX6_requireLayer 12 = .ok (.new 177, 3) := by decide +kernel
theorem dX6_requireLayer_15 : decode cX6_requireLayer 15 = .ok (.dup, 1) := by decide +kernel
theorem dX6_requireLayer_16 : decode cX6_requireLayer 16 = .ok (.ldc 199, 2) := by decide +kernel
theorem dX6_requireLayer_18 : decode cX6_requireLayer 18 = .ok (.invokespecial 181, 3) := by decide +kernel
theorem dX6_requireLayer_21 : decode cX6_requireLayer 21 = .ok (.athrow, 1) := by decide +kernel
theorem dX6_requireLayer_22 : decode cX6_requireLayer 22 = .ok (.return_, 1) := by decide +kernel
theorem dX6_requireThere_0 : decode cX6_requireThere 0 = .ok (.aload_n 0, 1) := by decide +kernel
theorem dX6_requireThere_1 : decode cX6_requireThere 1 = .ok (.getfield 201, 3) := by decide +kernel
theorem dX6_requireThere_4 : decode cX6_requireThere 4 = .ok (.ifCond .ne 13, 3) := by decide +kernel
theorem dX6_requireThere_7 : decode cX6_requireThere 7 = .ok (.new 205, 3) := by decide +kernel
theorem dX6_requireThere_10 : decode cX6_requireThere 10 = .ok (.dup, 1) := by decide +kernel
theorem dX6_requireThere_11 : decode cX6_requireThere 11 = .ok (.ldc 207, 2) := by decide +kernel
theorem dX6_requireThere_13 : decode cX6_requireThere 13 = .ok (.invokespecial 209, 3) := by decide +kernel
theorem dX6_requireThere_16 : decode cX6_requireThere 16 = .ok (.athrow, 1) := by decide +kernel
theorem dX6_requireThere_17 : decode cX6_requireThere 17 = .ok (.return_, 1) := by decide +kernel
theorem dX6_requireWithin_0 : decode cX6_requireWithin 0 = .ok (.dload_n 0, 1) := by decide +kernel
theorem dX6_requireWithin_1 : decode cX6_requireWithin 1 = .ok (.dload_n 2, 1) := by decide +kernel
theorem dX6_requireWithin_2 : decode cX6_requireWithin 2 = .ok (.dcmp .l, 1) := by decide +kernel
theorem dX6_requireWithin_3 : decode cX6_requireWithin 3 = .ok (.ifCond .lt 10, 3) := by decide +kernel
theorem dX6_requireWithin_6 : decode cX6_requireWithin 6 = .ok (.dload_n 0, 1) := by decide +kernel
theorem dX6_requireWithin_7 : decode cX6_requireWithin 7 = .ok (.dload 4, 2) := by decide +kernel
theorem dX6_requireWithin_9 : decode cX6_requireWithin 9 = .ok (.dcmp .g, 1) := by decide +kernel
theorem dX6_requireWithin_10 : decode cX6_requireWithin 10 = .ok (.ifCond .le 13, 3) := by decide +kernel
theorem dX6_requireWithin_13 : decode cX6_requireWithin 13 = .ok (.new 131, 3) := by decide +kernel
theorem dX6_requireWithin_16 : decode cX6_requireWithin 16 = .ok (.dup, 1) := by decide +kernel
theorem dX6_requireWithin_17 : decode cX6_requireWithin 17 = .ok (.ldc 210, 2) := by decide +kernel
theorem dX6_requireWithin_19 : decode cX6_requireWithin 19 = .ok (.invokespecial 135, 3) := by decide +kernel
theorem dX6_requireWithin_22 : decode cX6_requireWithin 22 = .ok (.athrow, 1) := by decide +kernel
theorem dX6_requireWithin_23 : decode cX6_requireWithin 23 = .ok (.return_, 1) := by decide +kernel
theorem dX6_boardsThere_0 : decode cX6_boardsThere 0 = .ok (.iconst 0, 1) := by decide +kernel
theorem dX6_boardsThere_1 : decode cX6_boardsThere 1 = .ok (.istore_n 1, 1) := by decide +kernel
theorem dX6_boardsThere_2 : decode cX6_boardsThere 2 = .ok (.iconst 0, 1) := by decide +kernel
theorem dX6_boardsThere_3 : decode cX6_boardsThere 3 = .ok (.istore_n 2, 1) := by decide +kernel
theorem dX6_boardsThere_4 : decode cX6_boardsThere 4 = .ok (.iload_n 2, 1) := by decide +kernel
theorem dX6_boardsThere_5 : decode cX6_boardsThere 5 = .ok (.aload_n 0, 1) := by decide +kernel
theorem dX6_boardsThere_6 : decode cX6_boardsThere 6 = .ok (.getfield 31, 3) := by decide +kernel
theorem dX6_boardsThere_9 : decode cX6_boardsThere 9 = .ok (.arraylength, 1) := by decide +kernel
theorem dX6_boardsThere_10 : decode cX6_boardsThere 10 = .ok (.if_icmp .ge 24, 3) := by decide +kernel
theorem dX6_boardsThere_13 : decode cX6_boardsThere 13 = .ok (.aload_n 0, 1) := by decide +kernel
theorem dX6_boardsThere_14 : decode cX6_boardsThere 14 = .ok (.getfield 31, 3) := by decide +kernel
theorem dX6_boardsThere_17 : decode cX6_boardsThere 17 = .ok (.iload_n 2, 1) := by decide +kernel
theorem dX6_boardsThere_18 : decode cX6_boardsThere 18 = .ok (.aaload, 1) := by decide +kernel
theorem dX6_boardsThere_19 : decode cX6_boardsThere 19 = .ok (.getfield 201, 3) := by decide +kernel
theorem dX6_boardsThere_22 : decode cX6_boardsThere 22 = .ok (.ifCond .eq 6, 3) := by decide +kernel
theorem dX6_boardsThere_25 : decode cX6_boardsThere 25 = .ok (.iinc 1 1, 3) := by decide +kernel
theorem dX6_boardsThere_28 : decode cX6_boardsThere 28 = .ok (.iinc 2 1, 3) := by decide +kernel
theorem dX6_boardsThere_31 : decode cX6_boardsThere 31 = .ok (.goto (-27), 3) := by decide +kernel
theorem dX6_boardsThere_34 : decode cX6_boardsThere 34 = .ok (.iload_n 1, 1) := by decide +kernel
theorem dX6_boardsThere_35 : decode cX6_boardsThere 35 = .ok (.ireturn, 1) := by decide +kernel
theorem dX6_isRefused_0 : decode cX6_isRefused 0 = .ok (.iconst 0, 1) := by decide +kernel
theorem dX6_isRefused_1 : decode cX6_isRefused 1 = .ok (.istore_n 1, 1) := by decide +kernel
theorem dX6_isRefused_2 : decode cX6_isRefused 2 = .ok (.iload_n 1, 1) := by decide +kernel
theorem dX6_isRefused_3 : decode cX6_isRefused 3 = .ok (.aload_n 0, 1) := by decide +kernel
theorem dX6_isRefused_4 : decode cX6_isRefused 4 = .ok (.getfield 31, 3) := by decide +kernel
theorem dX6_isRefused_7 : decode cX6_isRefused 7 = .ok (.arraylength, 1) := by decide +kernel
theorem dX6_isRefused_8 : decode cX6_isRefused 8 = .ok (.if_icmp .ge 42, 3) := by decide +kernel
theorem dX6_isRefused_11 : decode cX6_isRefused 11 = .ok (.aload_n 0, 1) := by decide +kernel
theorem dX6_isRefused_12 : decode cX6_isRefused 12 = .ok (.getfield 31, 3) := by decide +kernel
theorem dX6_isRefused_15 : decode cX6_isRefused 15 = .ok (.iload_n 1, 1) := by decide +kernel
theorem dX6_isRefused_16 : decode cX6_isRefused 16 = .ok (.aaload, 1) := by decide +kernel
theorem dX6_isRefused_17 : decode cX6_isRefused 17 = .ok (.getfield 201, 3) := by decide +kernel
theorem dX6_isRefused_20 : decode cX6_isRefused 20 = .ok (.ifCond .eq 24, 3) := by decide +kernel
theorem dX6_isRefused_23 : decode cX6_isRefused 23 = .ok (.aload_n 0, 1) := by decide +kernel
theorem dX6_isRefused_24 : decode cX6_isRefused 24 = .ok (.getfield 31, 3) := by decide +kernel
theorem dX6_isRefused_27 : decode cX6_isRefused 27 = .ok (.iload_n 1, 1) := by decide +kernel
theorem dX6_isRefused_28 : decode cX6_isRefused 28 = .ok (.aaload, 1) := by decide +kernel
theorem dX6_isRefused_29 : decode cX6_isRefused 29 = .ok (.aload_n 0, 1) := by decide +kernel
theorem dX6_isRefused_30 : decode cX6_isRefused 30 = .ok (.getfield 41, 3) := by decide +kernel
theorem dX6_isRefused_33 : decode cX6_isRefused 33 = .ok (.getfield 105, 3) := by decide +kernel
theorem dX6_isRefused_36 : decode cX6_isRefused 36 = .ok (.invokevirtual 212, 3) := by decide +kernel
theorem dX6_isRefused_39 : decode cX6_isRefused 39 = .ok (.ifCond .eq 5, 3) := by decide +kernel
theorem dX6_isRefused_42 : decode cX6_isRefused 42 = .ok (.iconst 1, 1) := by decide +kernel
theorem dX6_isRefused_43 : decode cX6_isRefused 43 = .ok (.ireturn, 1) := by decide +kernel
theorem dX6_isRefused_44 : decode cX6_isRefused 44 = .ok (.iinc 1 1, 3) := by decide +kernel
theorem dX6_isRefused_47 : decode cX6_isRefused 47 = .ok (.goto (-45), 3) := by decide +kernel
theorem dX6_isRefused_50 : decode cX6_isRefused 50 = .ok (.iconst 0, 1) := by decide +kernel
theorem dX6_isRefused_51 : decode cX6_isRefused 51 = .ok (.ireturn, 1) := by decide +kernel
theorem dX6_passHour_0 : decode cX6_passHour 0 = .ok (.aload_n 0, 1) := by decide +kernel
theorem dX6_passHour_1 : decode cX6_passHour 1 = .ok (.invokevirtual 216, 3) := by decide +kernel
theorem dX6_passHour_4 : decode cX6_passHour 4 = .ok (.iconst 0, 1) := by decide +kernel
theorem dX6_passHour_5 : decode cX6_passHour 5 = .ok (.istore_n 1, 1) := by decide +kernel
theorem dX6_passHour_6 : decode cX6_passHour 6 = .ok (.iload_n 1, 1) := by decide +kernel
theorem dX6_passHour_7 : decode cX6_passHour 7 = .ok (.aload_n 0, 1) := by decide +kernel
theorem dX6_passHour_8 : decode cX6_passHour 8 = .ok (.getfield 31, 3) := by decide +kernel
theorem dX6_passHour_11 : decode cX6_passHour 11 = .ok (.arraylength, 1) := by decide +kernel
theorem dX6_passHour_12 : decode cX6_passHour 12 = .ok (.if_icmp .ge 61, 3) := by decide +kernel
theorem dX6_passHour_15 : decode cX6_passHour 15 = .ok (.aload_n 0, 1) := by decide +kernel
theorem dX6_passHour_16 : decode cX6_passHour 16 = .ok (.getfield 31, 3) := by decide +kernel
theorem dX6_passHour_19 : decode cX6_passHour 19 = .ok (.iload_n 1, 1) := by decide +kernel
theorem dX6_passHour_20 : decode cX6_passHour 20 = .ok (.aaload, 1) := by decide +kernel
theorem dX6_passHour_21 : decode cX6_passHour 21 = .ok (.getfield 201, 3) := by decide +kernel
theorem dX6_passHour_24 : decode cX6_passHour 24 = .ok (.ifCond .eq 43, 3) := by decide +kernel
theorem dX6_passHour_27 : decode cX6_passHour 27 = .ok (.aload_n 0, 1) := by decide +kernel
theorem dX6_passHour_28 : decode cX6_passHour 28 = .ok (.getfield 31, 3) := by decide +kernel
theorem dX6_passHour_31 : decode cX6_passHour 31 = .ok (.iload_n 1, 1) := by decide +kernel
theorem dX6_passHour_32 : decode cX6_passHour 32 = .ok (.aaload, 1) := by decide +kernel
theorem dX6_passHour_33 : decode cX6_passHour 33 = .ok (.aload_n 0, 1) := by decide +kernel
theorem dX6_passHour_34 : decode cX6_passHour 34 = .ok (.getfield 41, 3) := by decide +kernel
theorem dX6_passHour_37 : decode cX6_passHour 37 = .ok (.getfield 105, 3) := by decide +kernel
theorem dX6_passHour_40 : decode cX6_passHour 40 = .ok (.aload_n 0, 1) := by decide +kernel
theorem dX6_passHour_41 : decode cX6_passHour 41 = .ok (.getfield 41, 3) := by decide +kernel
theorem dX6_passHour_44 : decode cX6_passHour 44 = .ok (.invokevirtual 171, 3) := by decide +kernel
theorem dX6_passHour_47 : decode cX6_passHour 47 = .ok (.invokevirtual 219, 3) := by decide +kernel
theorem dX6_passHour_50 : decode cX6_passHour 50 = .ok (.dstore_n 2, 1) := by decide +kernel
theorem dX6_passHour_51 : decode cX6_passHour 51 = .ok (.aload_n 0, 1) := by decide +kernel
theorem dX6_passHour_52 : decode cX6_passHour 52 = .ok (.getfield 48, 3) := by decide +kernel
theorem dX6_passHour_55 : decode cX6_passHour 55 = .ok (.dload_n 2, 1) := by decide +kernel
theorem dX6_passHour_56 : decode cX6_passHour 56 = .ok (.invokevirtual 223, 3) := by decide +kernel
theorem dX6_passHour_59 : decode cX6_passHour 59 = .ok (.aload_n 0, 1) := by decide +kernel
theorem dX6_passHour_60 : decode cX6_passHour 60 = .ok (.getfield 41, 3) := by decide +kernel
theorem dX6_passHour_63 : decode cX6_passHour 63 = .ok (.dload_n 2, 1) := by decide +kernel
theorem dX6_passHour_64 : decode cX6_passHour 64 = .ok (.invokevirtual 226, 3) := by decide +kernel
theorem dX6_passHour_67 : decode cX6_passHour 67 = .ok (.iinc 1 1, 3) := by decide +kernel
theorem dX6_passHour_70 : decode cX6_passHour 70 = .ok (.goto (-64), 3) := by decide +kernel
theorem dX6_passHour_73 : decode cX6_passHour 73 = .ok (.aload_n 0, 1) := by decide +kernel
theorem dX6_passHour_74 : decode cX6_passHour 74 = .ok (.dup, 1) := by decide +kernel
theorem dX6_passHour_75 : decode cX6_passHour 75 = .ok (.getfield 142, 3) := by decide +kernel
theorem dX6_passHour_78 : decode cX6_passHour 78 = .ok (.iconst 1, 1) := by decide +kernel
theorem dX6_passHour_79 : decode cX6_passHour 79 = .ok (.iadd, 1) := by decide +kernel
theorem dX6_passHour_80 : decode cX6_passHour 80 = .ok (.putfield 142, 3) := by decide +kernel
theorem dX6_passHour_83 : decode cX6_passHour 83 = .ok (.iconst 0, 1) := by decide +kernel
theorem dX6_passHour_84 : decode cX6_passHour 84 = .ok (.istore_n 1, 1) := by decide +kernel
theorem dX6_passHour_85 : decode cX6_passHour 85 = .ok (.iload_n 1, 1) := by decide +kernel
theorem dX6_passHour_86 : decode cX6_passHour 86 = .ok (.aload_n 0, 1) := by decide +kernel
theorem dX6_passHour_87 : decode cX6_passHour 87 = .ok (.getfield 31, 3) := by decide +kernel
theorem dX6_passHour_90 : decode cX6_passHour 90 = .ok (.arraylength, 1) := by decide +kernel
theorem dX6_passHour_91 : decode cX6_passHour 91 = .ok (.if_icmp .ge 34, 3) := by decide +kernel
theorem dX6_passHour_94 : decode cX6_passHour 94 = .ok (.aload_n 0, 1) := by decide +kernel
theorem dX6_passHour_95 : decode cX6_passHour 95 = .ok (.getfield 31, 3) := by decide +kernel
theorem dX6_passHour_98 : decode cX6_passHour 98 = .ok (.iload_n 1, 1) := by decide +kernel
theorem dX6_passHour_99 : decode cX6_passHour 99 = .ok (.aaload, 1) := by decide +kernel
theorem dX6_passHour_100 : decode cX6_passHour 100 = .ok (.getfield 201, 3) := by decide +kernel
theorem dX6_passHour_103 : decode cX6_passHour 103 = .ok (.ifCond .eq 16, 3) := by decide +kernel
theorem dX6_passHour_106 : decode cX6_passHour 106 = .ok (.aload_n 0, 1) := by decide +kernel
theorem dX6_passHour_107 : decode cX6_passHour 107 = .ok (.getfield 31, 3) := by decide +kernel
theorem dX6_passHour_110 : decode cX6_passHour 110 = .ok (.iload_n 1, 1) := by decide +kernel
theorem dX6_passHour_111 : decode cX6_passHour 111 = .ok (.aaload, 1) := by decide +kernel
theorem dX6_passHour_112 : decode cX6_passHour 112 = .ok (.aload_n 0, 1) := by decide +kernel
theorem dX6_passHour_113 : decode cX6_passHour 113 = .ok (.getfield 142, 3) := by decide +kernel
theorem dX6_passHour_116 : decode cX6_passHour 116 = .ok (.invokevirtual 229, 3) := by decide +kernel
theorem dX6_passHour_119 : decode cX6_passHour 119 = .ok (.iinc 1 1, 3) := by decide +kernel
theorem dX6_passHour_122 : decode cX6_passHour 122 = .ok (.goto (-37), 3) := by decide +kernel
theorem dX6_passHour_125 : decode cX6_passHour 125 = .ok (.return_, 1) := by decide +kernel
theorem dX6_followPlan_0 : decode cX6_followPlan 0 = .ok (.aload_n 0, 1) := by decide +kernel
theorem dX6_followPlan_1 : decode cX6_followPlan 1 = .ok (.getfield 62, 3) := by decide +kernel
theorem dX6_followPlan_4 : decode cX6_followPlan 4 = .ok (.getfield 186, 3) := by decide +kernel
theorem dX6_followPlan_7 : decode cX6_followPlan 7 = .ok (.aload_n 0, 1) := by decide +kernel
theorem dX6_followPlan_8 : decode cX6_followPlan 8 = .ok (.getfield 62, 3) := by decide +kernel
theorem dX6_followPlan_11 : decode cX6_followPlan 11 = .ok (.getfield 232, 3) := by decide +kernel
theorem dX6_followPlan_14 : decode cX6_followPlan 14 = .ok (.if_icmp .ge 80, 3) := by decide +kernel
theorem dX6_followPlan_17 : decode cX6_followPlan 17 = .ok (.aload_n 0, 1) := by decide +kernel
theorem dX6_followPlan_18 : decode cX6_followPlan 18 = .ok (.aload_n 0, 1) := by decide +kernel
theorem dX6_followPlan_19 : decode cX6_followPlan 19 = .ok (.getfield 62, 3) := by decide +kernel
theorem dX6_followPlan_22 : decode cX6_followPlan 22 = .ok (.getfield 186, 3) := by decide +kernel
theorem dX6_followPlan_25 : decode cX6_followPlan 25 = .ok (.invokevirtual 235, 3) := by decide +kernel
theorem dX6_followPlan_28 : decode cX6_followPlan 28 = .ok (.ifCond .eq 66, 3) := by decide +kernel
theorem dX6_followPlan_31 : decode cX6_followPlan 31 = .ok (.aload_n 0, 1) := by decide +kernel
theorem dX6_followPlan_32 : decode cX6_followPlan 32 = .ok (.getfield 41, 3) := by decide +kernel
theorem dX6_followPlan_35 : decode cX6_followPlan 35 = .ok (.aload_n 0, 1) := by decide +kernel
theorem dX6_followPlan_36 : decode cX6_followPlan 36 = .ok (.getfield 62, 3) := by decide +kernel
theorem dX6_followPlan_39 : decode cX6_followPlan 39 = .ok (.getfield 238, 3) := by decide +kernel
theorem dX6_followPlan_42 : decode cX6_followPlan 42 = .ok (.aload_n 0, 1) := by decide +kernel
theorem dX6_followPlan_43 : decode cX6_followPlan 43 = .ok (.getfield 62, 3) := by decide +kernel
theorem dX6_followPlan_46 : decode cX6_followPlan 46 = .ok (.getfield 186, 3) := by decide +kernel
theorem dX6_followPlan_49 : decode cX6_followPlan 49 = .ok (.iaload, 1) := by decide +kernel
theorem dX6_followPlan_50 : decode cX6_followPlan 50 = .ok (.i2d, 1) := by decide +kernel
theorem dX6_followPlan_51 : decode cX6_followPlan 51 = .ok (.putfield 99, 3) := by decide +kernel
theorem dX6_followPlan_54 : decode cX6_followPlan 54 = .ok (.aload_n 0, 1) := by decide +kernel
theorem dX6_followPlan_55 : decode cX6_followPlan 55 = .ok (.getfield 41, 3) := by decide +kernel
theorem dX6_followPlan_58 : decode cX6_followPlan 58 = .ok (.aload_n 0, 1) := by decide +kernel
theorem dX6_followPlan_59 : decode cX6_followPlan 59 = .ok (.getfield 62, 3) := by decide +kernel
theorem dX6_followPlan_62 : decode cX6_followPlan 62 = .ok (.getfield 242, 3) := by decide +kernel
theorem dX6_followPlan_65 : decode cX6_followPlan 65 = .ok (.aload_n 0, 1) := by decide +kernel
theorem dX6_followPlan_66 : decode cX6_followPlan 66 = .ok (.getfield 62, 3) := by decide +kernel
theorem dX6_followPlan_69 : decode cX6_followPlan 69 = .ok (.getfield 186, 3) := by decide +kernel
theorem dX6_followPlan_72 : decode cX6_followPlan 72 = .ok (.iaload, 1) := by decide +kernel
theorem dX6_followPlan_73 : decode cX6_followPlan 73 = .ok (.i2d, 1) := by decide +kernel
theorem dX6_followPlan_74 : decode cX6_followPlan 74 = .ok (.ldc2_w 245, 3) := by decide +kernel
theorem dX6_followPlan_77 : decode cX6_followPlan 77 = .ok (.ddiv, 1) := by decide +kernel
theorem dX6_followPlan_78 : decode cX6_followPlan 78 = .ok (.putfield 102, 3) := by decide +kernel
theorem dX6_followPlan_81 : decode cX6_followPlan 81 = .ok (.aload_n 0, 1) := by decide +kernel
theorem dX6_followPlan_82 : decode cX6_followPlan 82 = .ok (.getfield 62, 3) := by decide +kernel
theorem dX6_followPlan_85 : decode cX6_followPlan 85 = .ok (.dup, 1) := by decide +kernel
theorem dX6_followPlan_86 : decode cX6_followPlan 86 = .ok (.getfield 186, 3) := by decide +kernel
theorem dX6_followPlan_89 : decode cX6_followPlan 89 = .ok (.iconst 1, 1) := by decide +kernel
theorem dX6_followPlan_90 : decode cX6_followPlan 90 = .ok (.iadd, 1) := by decide +kernel
theorem dX6_followPlan_91 : decode cX6_followPlan 91 = .ok (.putfield 186, 3) := by decide +kernel
theorem dX6_followPlan_94 : decode cX6_followPlan 94 = .ok (.return_, 1) := by decide +kernel
theorem dX6_isStepDue_0 : decode cX6_isStepDue 0 = .ok (.aload_n 0, 1) := by decide +kernel
theorem dX6_isStepDue_1 : decode cX6_isStepDue 1 = .ok (.getfield 62, 3) := by decide +kernel
theorem dX6_isStepDue_4 : decode cX6_isStepDue 4 = .ok (.getfield 247, 3) := by decide +kernel
theorem dX6_isStepDue_7 : decode cX6_isStepDue 7 = .ok (.iload_n 1, 1) := by decide +kernel
theorem dX6_isStepDue_8 : decode cX6_isStepDue 8 = .ok (.baload, 1) := by decide +kernel
theorem dX6_isStepDue_9 : decode cX6_isStepDue 9 = .ok (.ifCond .eq 25, 3) := by decide +kernel
theorem dX6_isStepDue_12 : decode cX6_isStepDue 12 = .ok (.aload_n 0, 1) := by decide +kernel
theorem dX6_isStepDue_13 : decode cX6_isStepDue 13 = .ok (.getfield 142, 3) := by decide +kernel
theorem dX6_isStepDue_16 : decode cX6_isStepDue 16 = .ok (.aload_n 0, 1) := by decide +kernel
theorem dX6_isStepDue_17 : decode cX6_isStepDue 17 = .ok (.getfield 62, 3) := by decide +kernel
theorem dX6_isStepDue_20 : decode cX6_isStepDue 20 = .ok (.getfield 251, 3) := by decide +kernel
theorem dX6_isStepDue_23 : decode cX6_isStepDue 23 = .ok (.iload_n 1, 1) := by decide +kernel
theorem dX6_isStepDue_24 : decode cX6_isStepDue 24 = .ok (.iaload, 1) := by decide +kernel
theorem dX6_isStepDue_25 : decode cX6_isStepDue 25 = .ok (.if_icmp .lt 7, 3) := by decide +kernel
theorem dX6_isStepDue_28 : decode cX6_isStepDue 28 = .ok (.iconst 1, 1) := by decide +kernel
theorem dX6_isStepDue_29 : decode cX6_isStepDue 29 = .ok (.goto 4, 3) := by decide +kernel
theorem dX6_isStepDue_32 : decode cX6_isStepDue 32 = .ok (.iconst 0, 1) := by decide +kernel
theorem dX6_isStepDue_33 : decode cX6_isStepDue 33 = .ok (.ireturn, 1) := by decide +kernel
theorem dX6_isStepDue_34 : decode cX6_isStepDue 34 = .ok (.aload_n 0, 1) := by decide +kernel
theorem dX6_isStepDue_35 : decode cX6_isStepDue 35 = .ok (.invokevirtual 189, 3) := by decide +kernel
theorem dX6_isStepDue_38 : decode cX6_isStepDue 38 = .ok (.ifCond .le 28, 3) := by decide +kernel
theorem dX6_isStepDue_41 : decode cX6_isStepDue 41 = .ok (.aload_n 0, 1) := by decide +kernel
theorem dX6_isStepDue_42 : decode cX6_isStepDue 42 = .ok (.aload_n 0, 1) := by decide +kernel
theorem dX6_isStepDue_43 : decode cX6_isStepDue 43 = .ok (.getfield 62, 3) := by decide +kernel
theorem dX6_isStepDue_46 : decode cX6_isStepDue 46 = .ok (.getfield 251, 3) := by decide +kernel
theorem dX6_isStepDue_49 : decode cX6_isStepDue 49 = .ok (.iload_n 1, 1) := by decide +kernel
theorem dX6_isStepDue_50 : decode cX6_isStepDue 50 = .ok (.iaload, 1) := by decide +kernel
theorem dX6_isStepDue_51 : decode cX6_isStepDue 51 = .ok (.i2d, 1) := by decide +kernel
theorem dX6_isStepDue_52 : decode cX6_isStepDue 52 = .ok (.ldc2_w 245, 3) := by decide +kernel
theorem dX6_isStepDue_55 : decode cX6_isStepDue 55 = .ok (.ddiv, 1) := by decide +kernel
theorem dX6_isStepDue_56 : decode cX6_isStepDue 56 = .ok (.invokevirtual 254, 3) := by decide +kernel
theorem dX6_isStepDue_59 : decode cX6_isStepDue 59 = .ok (.ifCond .ne 7, 3) := by decide +kernel
theorem dX6_isStepDue_62 : decode cX6_isStepDue 62 = .ok (.iconst 1, 1) := by decide +kernel
theorem dX6_isStepDue_63 : decode cX6_isStepDue 63 = .ok (.goto 4, 3) := by decide +kernel
theorem dX6_isStepDue_66 : decode cX6_isStepDue 66 = .ok (.iconst 0, 1) := by decide +kernel
theorem dX6_isStepDue_67 : decode cX6_isStepDue 67 = .ok (.ireturn, 1) := by decide +kernel
theorem dX6_isAnyWetterThan_0 : decode cX6_isAnyWetterThan 0 = .ok (.iconst 0, 1) := by decide +kernel
theorem dX6_isAnyWetterThan_1 : decode cX6_isAnyWetterThan 1 = .ok (.istore_n 3, 1) := by decide +kernel
theorem dX6_isAnyWetterThan_2 : decode cX6_isAnyWetterThan 2 = .ok (.iload_n 3, 1) := by decide +kernel
theorem dX6_isAnyWetterThan_3 : decode cX6_isAnyWetterThan 3 = .ok (.aload_n 0, 1) := by decide +kernel
theorem dX6_isAnyWetterThan_4 : decode cX6_isAnyWetterThan 4 = .ok (.getfield 31, 3) := by decide +kernel
theorem dX6_isAnyWetterThan_7 : decode cX6_isAnyWetterThan 7 = .ok (.arraylength, 1) := by decide +kernel
theorem dX6_isAnyWetterThan_8 : decode cX6_isAnyWetterThan 8 = .ok (.if_icmp .ge 37, 3) := by decide +kernel
theorem dX6_isAnyWetterThan_11 : decode cX6_isAnyWetterThan 11 = .ok (.aload_n 0, 1) := by decide +kernel
theorem dX6_isAnyWetterThan_12 : decode cX6_isAnyWetterThan 12 = .ok (.getfield 31, 3) := by decide +kernel
theorem dX6_isAnyWetterThan_15 : decode cX6_isAnyWetterThan 15 = .ok (.iload_n 3, 1) := by decide +kernel
theorem dX6_isAnyWetterThan_16 : decode cX6_isAnyWetterThan 16 = .ok (.aaload, 1) := by decide +kernel
theorem dX6_isAnyWetterThan_17 : decode cX6_isAnyWetterThan 17 = .ok (.getfield 201, 3) := by decide +kernel
theorem dX6_isAnyWetterThan_20 : decode cX6_isAnyWetterThan 20 = .ok (.ifCond .eq 19, 3) := by decide +kernel
theorem dX6_isAnyWetterThan_23 : decode cX6_isAnyWetterThan 23 = .ok (.aload_n 0, 1) := by decide +kernel
theorem dX6_isAnyWetterThan_24 : decode cX6_isAnyWetterThan 24 = .ok (.getfield 31, 3) := by decide +kernel
theorem dX6_isAnyWetterThan_27 : decode cX6_isAnyWetterThan 27 = .ok (.iload_n 3, 1) := by decide +kernel
theorem dX6_isAnyWetterThan_28 : decode cX6_isAnyWetterThan 28 = .ok (.aaload, 1) := by decide +kernel
theorem dX6_isAnyWetterThan_29 : decode cX6_isAnyWetterThan 29 = .ok (.invokevirtual 160, 3) := by decide +kernel
theorem dX6_isAnyWetterThan_32 : decode cX6_isAnyWetterThan 32 = .ok (.dload_n 1, 1) := by decide +kernel
theorem dX6_isAnyWetterThan_33 : decode cX6_isAnyWetterThan 33 = .ok (.dcmp .l, 1) := by decide +kernel
theorem dX6_isAnyWetterThan_34 : decode cX6_isAnyWetterThan 34 = .ok (.ifCond .le 5, 3) := by decide +kernel
theorem dX6_isAnyWetterThan_37 : decode cX6_isAnyWetterThan 37 = .ok (.iconst 1, 1) := by decide +kernel
theorem dX6_isAnyWetterThan_38 : decode cX6_isAnyWetterThan 38 = .ok (.ireturn, 1) := by decide +kernel
theorem dX6_isAnyWetterThan_39 : decode cX6_isAnyWetterThan 39 = .ok (.iinc 3 1, 3) := by decide +kernel
theorem dX6_isAnyWetterThan_42 : decode cX6_isAnyWetterThan 42 = .ok (.goto (-40), 3) := by decide +kernel
theorem dX6_isAnyWetterThan_45 : decode cX6_isAnyWetterThan 45 = .ok (.iconst 0, 1) := by decide +kernel
theorem dX6_isAnyWetterThan_46 : decode cX6_isAnyWetterThan 46 = .ok (.ireturn, 1) := by decide +kernel
theorem dX7_init_0 : decode cX7_init 0 = .ok (.aload_n 0, 1) := by decide +kernel
theorem dX7_init_1 : decode cX7_init 1 = .ok (.invokespecial 1, 3) := by decide +kernel
theorem dX7_init_4 : decode cX7_init 4 = .ok (.aload_n 0, 1) := by decide +kernel
theorem dX7_init_5 : decode cX7_init 5 = .ok (.iconst 4, 1) := by decide +kernel
theorem dX7_init_6 : decode cX7_init 6 = .ok (.newarray .double, 2) := by decide +kernel
theorem dX7_init_8 : decode cX7_init 8 = .ok (.putfield 7, 3) := by decide +kernel
theorem dX7_init_11 : decode cX7_init 11 = .ok (.aload_n 0, 1) := by decide +kernel
theorem dX7_init_12 : decode cX7_init 12 = .ok (.iconst 4, 1) := by decide +kernel
theorem dX7_init_13 : decode cX7_init 13 = .ok (.newarray .double, 2) := by decide +kernel
theorem dX7_init_15 : decode cX7_init 15 = .ok (.putfield 13, 3) := by decide +kernel
theorem dX7_init_18 : decode cX7_init 18 = .ok (.aload_n 0, 1) := by decide +kernel
theorem dX7_init_19 : decode cX7_init 19 = .ok (.ldc2_w 16, 3) := by decide +kernel
theorem dX7_init_22 : decode cX7_init 22 = .ok (.putfield 18, 3) := by decide +kernel
theorem dX7_init_25 : decode cX7_init 25 = .ok (.aload_n 0, 1) := by decide +kernel
theorem dX7_init_26 : decode cX7_init 26 = .ok (.ldc2_w 22, 3) := by decide +kernel
theorem dX7_init_29 : decode cX7_init 29 = .ok (.putfield 24, 3) := by decide +kernel
theorem dX7_init_32 : decode cX7_init 32 = .ok (.aload_n 0, 1) := by decide +kernel
theorem dX7_init_33 : decode cX7_init 33 = .ok (.dconst 1, 1) := by decide +kernel
theorem dX7_init_34 : decode cX7_init 34 = .ok (.putfield 27, 3) := by decide +kernel
theorem dX7_init_37 : decode cX7_init 37 = .ok (.aload_n 0, 1) := by decide +kernel
theorem dX7_init_38 : decode cX7_init 38 = .ok (.bipush 8, 2) := by decide +kernel
theorem dX7_init_40 : decode cX7_init 40 = .ok (.newarray .boolean, 2) := by decide +kernel
theorem dX7_init_42 : decode cX7_init 42 = .ok (.putfield 30, 3) := by decide +kernel
theorem dX7_init_45 : decode cX7_init 45 = .ok (.aload_n 0, 1) := by decide +kernel
theorem dX7_init_46 : decode cX7_init 46 = .ok (.bipush 8, 2) := by decide +kernel
theorem dX7_init_48 : decode cX7_init 48 = .ok (.newarray .double, 2) := by decide +kernel
theorem dX7_init_50 : decode cX7_init 50 = .ok (.putfield 34, 3) := by decide +kernel
theorem dX7_init_53 : decode cX7_init 53 = .ok (.aload_n 0, 1) := by decide +kernel
theorem dX7_init_54 : decode cX7_init 54 = .ok (.bipush 8, 2) := by decide +kernel
theorem dX7_init_56 : decode cX7_init 56 = .ok (.newarray .int, 2) := by decide +kernel
theorem dX7_init_58 : decode cX7_init 58 = .ok (.putfield 37, 3) := by decide +kernel
theorem dX7_init_61 : decode cX7_init 61 = .ok (.aload_n 0, 1) := by decide +kernel
theorem dX7_init_62 : decode cX7_init 62 = .ok (.sipush 128, 3) := by decide +kernel
theorem dX7_init_65 : decode cX7_init 65 = .ok (.newarray .double, 2) := by decide +kernel
theorem dX7_init_67 : decode cX7_init 67 = .ok (.putfield 41, 3) := by decide +kernel
theorem dX7_init_70 : decode cX7_init 70 = .ok (.aload_n 0, 1) := by decide +kernel
theorem dX7_init_71 : decode cX7_init 71 = .ok (.bipush 16, 2) := by decide +kernel
theorem dX7_init_73 : decode cX7_init 73 = .ok (.newarray .double, 2) := by decide +kernel
theorem dX7_init_75 : decode cX7_init 75 = .ok (.putfield 44, 3) := by decide +kernel
theorem dX7_init_78 : decode cX7_init 78 = .ok (.aload_n 0, 1) := by decide +kernel
theorem dX7_init_79 : decode cX7_init 79 = .ok (.bipush 8, 2) := by decide +kernel
theorem dX7_init_81 : decode cX7_init 81 = .ok (.newarray .boolean, 2) := by decide +kernel
theorem dX7_init_83 : decode cX7_init 83 = .ok (.putfield 47, 3) := by decide +kernel
theorem dX7_init_86 : decode cX7_init 86 = .ok (.aload_n 0, 1) := by decide +kernel
theorem dX7_init_87 : decode cX7_init 87 = .ok (.bipush 8, 2) := by decide +kernel
theorem dX7_init_89 : decode cX7_init 89 = .ok (.newarray .double, 2) := by decide +kernel
theorem dX7_init_91 : decode cX7_init 91 = .ok (.putfield 50, 3) := by decide +kernel
theorem dX7_init_94 : decode cX7_init 94 = .ok (.aload_n 0, 1) := by decide +kernel
theorem dX7_init_95 : decode cX7_init 95 = .ok (.bipush 8, 2) := by decide +kernel
theorem dX7_init_97 : decode cX7_init 97 = .ok (.newarray .int, 2) := by decide +kernel
theorem dX7_init_99 : decode cX7_init 99 = .ok (.putfield 53, 3) := by decide +kernel
theorem dX7_init_102 : decode cX7_init 102 = .ok (.aload_n 0, 1) := by decide +kernel
theorem dX7_init_103 : decode cX7_init 103 = .ok (.sipush 200, 3) := by decide +kernel
theorem dX7_init_106 : decode cX7_init 106 = .ok (.newarray .int, 2) := by decide +kernel
theorem dX7_init_108 : decode cX7_init 108 = .ok (.putfield 56, 3) := by decide +kernel
theorem dX7_init_111 : decode cX7_init 111 = .ok (.aload_n 0, 1) := by decide +kernel
theorem dX7_init_112 : decode cX7_init 112 = .ok (.bipush 12, 2) := by decide +kernel
theorem dX7_init_114 : decode cX7_init 114 = .ok (.newarray .boolean, 2) := by decide +kernel
theorem dX7_init_116 : decode cX7_init 116 = .ok (.putfield 59, 3) := by decide +kernel
theorem dX7_init_119 : decode cX7_init 119 = .ok (.aload_n 0, 1) := by decide +kernel
theorem dX7_init_120 : decode cX7_init 120 = .ok (.bipush 12, 2) := by decide +kernel
theorem dX7_init_122 : decode cX7_init 122 = .ok (.newarray .int, 2) := by decide +kernel
theorem dX7_init_124 : decode cX7_init 124 = .ok (.putfield 62, 3) := by decide +kernel
theorem dX7_init_127 : decode cX7_init 127 = .ok (.aload_n 0, 1) := by decide +kernel
theorem dX7_init_128 : decode cX7_init 128 = .ok (.bipush 12, 2) := by decide +kernel
theorem dX7_init_130 : decode cX7_init 130 = .ok (.newarray .int, 2) := by decide +kernel
theorem dX7_init_132 : decode cX7_init 132 = .ok (.putfield 65, 3) := by decide +kernel
theorem dX7_init_135 : decode cX7_init 135 = .ok (.aload_n 0, 1) := by decide +kernel
theorem dX7_init_136 : decode cX7_init 136 = .ok (.bipush 12, 2) := by decide +kernel
theorem dX7_init_138 : decode cX7_init 138 = .ok (.newarray .int, 2) := by decide +kernel
theorem dX7_init_140 : decode cX7_init 140 = .ok (.putfield 68, 3) := by decide +kernel
theorem dX7_init_143 : decode cX7_init 143 = .ok (.aload_n 0, 1) := by decide +kernel
theorem dX7_init_144 : decode cX7_init 144 = .ok (.iload_n 1, 1) := by decide +kernel
theorem dX7_init_145 : decode cX7_init 145 = .ok (.iconst 1, 1) := by decide +kernel
theorem dX7_init_146 : decode cX7_init 146 = .ok (.if_icmp .ge 7, 3) := by decide +kernel
theorem dX7_init_149 : decode cX7_init 149 = .ok (.iconst 1, 1) := by decide +kernel
theorem dX7_init_150 : decode cX7_init 150 = .ok (.goto 15, 3) := by decide +kernel
theorem dX7_init_153 : decode cX7_init 153 = .ok (.iload_n 1, 1) := by decide +kernel
theorem dX7_init_154 : decode cX7_init 154 = .ok (.bipush 16, 2) := by decide +kernel
theorem dX7_init_156 : decode cX7_init 156 = .ok (.if_icmp .le 8, 3) := by decide +kernel
theorem dX7_init_159 : decode cX7_init 159 = .ok (.bipush 16, 2) := by decide +kernel
theorem dX7_init_161 : decode cX7_init 161 = .ok (.goto 4, 3) := by decide +kernel
theorem dX7_init_164 : decode cX7_init 164 = .ok (.iload_n 1, 1) := by decide +kernel
theorem dX7_init_165 : decode cX7_init 165 = .ok (.putfield 71, 3) := by decide +kernel
theorem dX7_init_168 : decode cX7_init 168 = .ok (.aload_n 0, 1) := by decide +kernel
theorem dX7_init_169 : decode cX7_init 169 = .ok (.iload_n 2, 1) := by decide +kernel
theorem dX7_init_170 : decode cX7_init 170 = .ok (.iconst 1, 1) := by decide +kernel
theorem dX7_init_171 : decode cX7_init 171 = .ok (.if_icmp .ge 7, 3) := by decide +kernel
theorem dX7_init_174 : decode cX7_init 174 = .ok (.iconst 1, 1) := by decide +kernel
theorem dX7_init_175 : decode cX7_init 175 = .ok (.goto 15, 3) := by decide +kernel
theorem dX7_init_178 : decode cX7_init 178 = .ok (.iload_n 2, 1) := by decide +kernel
theorem dX7_init_179 : decode cX7_init 179 = .ok (.bipush 8, 2) := by decide +kernel
theorem dX7_init_181 : decode cX7_init 181 = .ok (.if_icmp .le 8, 3) := by decide +kernel
theorem dX7_init_184 : decode cX7_init 184 = .ok (.bipush 8, 2) := by decide +kernel
theorem dX7_init_186 : decode cX7_init 186 = .ok (.goto 4, 3) := by decide +kernel
theorem dX7_init_189 : decode cX7_init 189 = .ok (.iload_n 2, 1) := by decide +kernel
theorem dX7_init_190 : decode cX7_init 190 = .ok (.putfield 75, 3) := by decide +kernel
theorem dX7_init_193 : decode cX7_init 193 = .ok (.return_, 1) := by decide +kernel
theorem dX7_thrown_0 : decode cX7_thrown 0 = .ok (.aload_n 0, 1) := by decide +kernel
theorem dX7_thrown_1 : decode cX7_thrown 1 = .ok (.getfield 78, 3) := by decide +kernel
theorem dX7_thrown_4 : decode cX7_thrown 4 = .ok (.ireturn, 1) := by decide +kernel
theorem dX7_noBoard_0 : decode cX7_noBoard 0 = .ok (.iload_n 1, 1) := by decide +kernel
theorem dX7_noBoard_1 : decode cX7_noBoard 1 = .ok (.ifCond .lt 11, 3) := by decide +kernel
theorem dX7_noBoard_4 : decode cX7_noBoard 4 = .ok (.iload_n 1, 1) := by decide +kernel
theorem dX7_noBoard_5 : decode cX7_noBoard 5 = .ok (.aload_n 0, 1) := by decide +kernel
theorem dX7_noBoard_6 : decode cX7_noBoard 6 = .ok (.getfield 75, 3) := by decide +kernel
theorem dX7_noBoard_9 : decode cX7_noBoard 9 = .ok (.if_icmp .lt 7, 3) := by decide +kernel
theorem dX7_noBoard_12 : decode cX7_noBoard 12 = .ok (.iconst 1, 1) := by decide +kernel
theorem dX7_noBoard_13 : decode cX7_noBoard 13 = .ok (.goto 4, 3) := by decide +kernel
theorem dX7_noBoard_16 : decode cX7_noBoard 16 = .ok (.iconst 0, 1) := by decide +kernel
theorem dX7_noBoard_17 : decode cX7_noBoard 17 = .ok (.ireturn, 1) := by decide +kernel
theorem dX7_noLayer_0 : decode cX7_noLayer 0 = .ok (.aload_n 0, 1) := by decide +kernel
theorem dX7_noLayer_1 : decode cX7_noLayer 1 = .ok (.iload_n 1, 1) := by decide +kernel
theorem dX7_noLayer_2 : decode cX7_noLayer 2 = .ok (.invokevirtual 81, 3) := by decide +kernel
theorem dX7_noLayer_5 : decode cX7_noLayer 5 = .ok (.ifCond .ne 15, 3) := by decide +kernel
theorem dX7_noLayer_8 : decode cX7_noLayer 8 = .ok (.iload_n 2, 1) := by decide +kernel
theorem dX7_noLayer_9 : decode cX7_noLayer 9 = .ok (.ifCond .lt 11, 3) := by decide +kernel
theorem dX7_noLayer_12 : decode cX7_noLayer 12 = .ok (.iload_n 2, 1) := by decide +kernel
theorem dX7_noLayer_13 : decode cX7_noLayer 13 = .ok (.aload_n 0, 1) := by decide +kernel
theorem dX7_noLayer_14 : decode cX7_noLayer 14 = .ok (.getfield 71, 3) := by decide +kernel
theorem dX7_noLayer_17 : decode cX7_noLayer 17 = .ok (.if_icmp .lt 7, 3) := by decide +kernel
theorem dX7_noLayer_20 : decode cX7_noLayer 20 = .ok (.iconst 1, 1) := by decide +kernel
theorem dX7_noLayer_21 : decode cX7_noLayer 21 = .ok (.goto 4, 3) := by decide +kernel
theorem dX7_noLayer_24 : decode cX7_noLayer 24 = .ok (.iconst 0, 1) := by decide +kernel
theorem dX7_noLayer_25 : decode cX7_noLayer 25 = .ok (.ireturn, 1) := by decide +kernel
theorem dX7_isIn_0 : decode cX7_isIn 0 = .ok (.dload_n 0, 1) := by decide +kernel
theorem dX7_isIn_1 : decode cX7_isIn 1 = .ok (.dload_n 2, 1) := by decide +kernel
theorem dX7_isIn_2 : decode cX7_isIn 2 = .ok (.dcmp .l, 1) := by decide +kernel
theorem dX7_isIn_3 : decode cX7_isIn 3 = .ok (.ifCond .lt 14, 3) := by decide +kernel
theorem dX7_isIn_6 : decode cX7_isIn 6 = .ok (.dload_n 0, 1) := by decide +kernel
theorem dX7_isIn_7 : decode cX7_isIn 7 = .ok (.dload 4, 2) := by decide +kernel
theorem dX7_isIn_9 : decode cX7_isIn 9 = .ok (.dcmp .g, 1) := by decide +kernel
theorem dX7_isIn_10 : decode cX7_isIn 10 = .ok (.ifCond .gt 7, 3) := by decide +kernel
theorem dX7_isIn_13 : decode cX7_isIn 13 = .ok (.iconst 1, 1) := by decide +kernel
theorem dX7_isIn_14 : decode cX7_isIn 14 = .ok (.goto 4, 3) := by decide +kernel
theorem dX7_isIn_17 : decode cX7_isIn 17 = .ok (.iconst 0, 1) := by decide +kernel
theorem dX7_isIn_18 : decode cX7_isIn 18 = .ok (.ireturn, 1) := by decide +kernel
theorem dX7_board_0 : decode cX7_board 0 = .ok (.aload_n 0, 1) := by decide +kernel
theorem dX7_board_1 : decode cX7_board 1 = .ok (.aload_n 0, 1) := by decide +kernel
theorem dX7_board_2 : decode cX7_board 2 = .ok (.iload_n 1, 1) := by decide +kernel
theorem dX7_board_3 : decode cX7_board 3 = .ok (.invokevirtual 81, 3) := by decide +kernel
theorem dX7_board_6 : decode cX7_board 6 = .ok (.ifCond .ne 14, 3) := by decide +kernel
theorem dX7_board_9 : decode cX7_board 9 = .ok (.iload 6, 2) := by decide +kernel
theorem dX7_board_11 : decode cX7_board 11 = .ok (.ifCond .lt 9, 3) := by decide +kernel
theorem dX7_board_14 : decode cX7_board 14 = .ok (.iload 6, 2) := by decide +kernel
theorem dX7_board_16 : decode cX7_board 16 = .ok (.iconst 4, 1) := by decide +kernel
theorem dX7_board_17 : decode cX7_board 17 = .ok (.if_icmp .lt 7, 3) := by decide +kernel
theorem dX7_board_20 : decode cX7_board 20 = .ok (.iconst 1, 1) := by decide +kernel
theorem dX7_board_21 : decode cX7_board 21 = .ok (.goto 31, 3) := by decide +kernel
theorem dX7_board_24 : decode cX7_board 24 = .ok (.dload_n 2, 1) := by decide +kernel
theorem dX7_board_25 : decode cX7_board 25 = .ok (.dconst 1, 1) := by decide +kernel
theorem dX7_board_26 : decode cX7_board 26 = .ok (.ldc2_w 85, 3) := by decide +kernel
theorem dX7_board_29 : decode cX7_board 29 = .ok (.invokestatic 87, 3) := by decide +kernel
theorem dX7_board_32 : decode cX7_board 32 = .ok (.ifCond .eq 19, 3) := by decide +kernel
theorem dX7_board_35 : decode cX7_board 35 = .ok (.dload 4, 2) := by decide +kernel
theorem dX7_board_37 : decode cX7_board 37 = .ok (.dconst 0, 1) := by decide +kernel
theorem dX7_board_38 : decode cX7_board 38 = .ok (.ldc2_w 91, 3) := by decide +kernel
theorem dX7_board_41 : decode cX7_board 41 = .ok (.invokestatic 87, 3) := by decide +kernel
theorem dX7_board_44 : decode cX7_board 44 = .ok (.ifCond .eq 7, 3) := by decide +kernel
theorem dX7_board_47 : decode cX7_board 47 = .ok (.iconst 0, 1) := by decide +kernel
theorem dX7_board_48 : decode cX7_board 48 = .ok (.goto 4, 3) := by decide +kernel
theorem dX7_board_51 : decode cX7_board 51 = .ok (.iconst 2, 1) := by decide +kernel
theorem dX7_board_52 : decode cX7_board 52 = .ok (.putfield 78, 3) := by decide +kernel
theorem dX7_board_55 : decode cX7_board 55 = .ok (.aload_n 0, 1) := by decide +kernel
theorem dX7_board_56 : decode cX7_board 56 = .ok (.getfield 78, 3) := by decide +kernel
theorem dX7_board_59 : decode cX7_board 59 = .ok (.ifCond .le 4, 3) := by decide +kernel
theorem dX7_board_62 : decode cX7_board 62 = .ok (.return_, 1) := by decide +kernel
theorem dX7_board_63 : decode cX7_board 63 = .ok (.aload_n 0, 1) := by decide +kernel
theorem dX7_board_64 : decode cX7_board 64 = .ok (.getfield 30, 3) := by decide +kernel
theorem dX7_board_67 : decode cX7_board 67 = .ok (.iload_n 1, 1) := by decide +kernel
theorem dX7_board_68 : decode cX7_board 68 = .ok (.iconst 1, 1) := by decide +kernel
theorem dX7_board_69 : decode cX7_board 69 = .ok (.bastore, 1) := by decide +kernel
theorem dX7_board_70 : decode cX7_board 70 = .ok (.aload_n 0, 1) := by decide +kernel
theorem dX7_board_71 : decode cX7_board 71 = .ok (.getfield 34, 3) := by decide +kernel
theorem dX7_board_74 : decode cX7_board 74 = .ok (.iload_n 1, 1) := by decide +kernel
theorem dX7_board_75 : decode cX7_board 75 = .ok (.dload_n 2, 1) := by decide +kernel
theorem dX7_board_76 : decode cX7_board 76 = .ok (.aload_n 0, 1) := by decide +kernel
theorem dX7_board_77 : decode cX7_board 77 = .ok (.getfield 71, 3) := by decide +kernel
theorem dX7_board_80 : decode cX7_board 80 = .ok (.i2d, 1) := by decide +kernel
theorem dX7_board_81 : decode cX7_board 81 = .ok (.ddiv, 1) := by decide +kernel
theorem dX7_board_82 : decode cX7_board 82 = .ok (.dastore, 1) := by decide +kernel
theorem dX7_board_83 : decode cX7_board 83 = .ok (.aload_n 0, 1) := by decide +kernel
theorem dX7_board_84 : decode cX7_board 84 = .ok (.getfield 37, 3) := by decide +kernel
theorem dX7_board_87 : decode cX7_board 87 = .ok (.iload_n 1, 1) := by decide +kernel
theorem dX7_board_88 : decode cX7_board 88 = .ok (.iload 6, 2) := by decide +kernel
theorem dX7_board_90 : decode cX7_board 90 = .ok (.iastore, 1) := by decide +kernel
theorem dX7_board_91 : decode cX7_board 91 = .ok (.aload_n 0, 1) := by decide +kernel
theorem dX7_board_92 : decode cX7_board 92 = .ok (.getfield 47, 3) := by decide +kernel
theorem dX7_board_95 : decode cX7_board 95 = .ok (.iload_n 1, 1) := by decide +kernel
theorem dX7_board_96 : decode cX7_board 96 = .ok (.iconst 0, 1) := by decide +kernel
theorem dX7_board_97 : decode cX7_board 97 = .ok (.bastore, 1) := by decide +kernel
theorem dX7_board_98 : decode cX7_board 98 = .ok (.aload_n 0, 1) := by decide +kernel
theorem dX7_board_99 : decode cX7_board 99 = .ok (.getfield 53, 3) := by decide +kernel
theorem dX7_board_102 : decode cX7_board 102 = .ok (.iload_n 1, 1) := by decide +kernel
theorem dX7_board_103 : decode cX7_board 103 = .ok (.iconst (-1), 1) := by decide +kernel
theorem dX7_board_104 : decode cX7_board 104 = .ok (.iastore, 1) := by decide +kernel
theorem dX7_board_105 : decode cX7_board 105 = .ok (.iconst 0, 1) := by decide +kernel
theorem dX7_board_106 : decode cX7_board 106 = .ok (.istore 7, 2) := by decide +kernel
theorem dX7_board_108 : decode cX7_board 108 = .ok (.iload 7, 2) := by decide +kernel
theorem dX7_board_110 : decode cX7_board 110 = .ok (.aload_n 0, 1) := by decide +kernel
theorem dX7_board_111 : decode cX7_board 111 = .ok (.getfield 71, 3) := by decide +kernel
theorem dX7_board_114 : decode cX7_board 114 = .ok (.if_icmp .ge 23, 3) := by decide +kernel
theorem dX7_board_117 : decode cX7_board 117 = .ok (.aload_n 0, 1) := by decide +kernel
theorem dX7_board_118 : decode cX7_board 118 = .ok (.getfield 41, 3) := by decide +kernel
theorem dX7_board_121 : decode cX7_board 121 = .ok (.bipush 16, 2) := by decide +kernel
theorem dX7_board_123 : decode cX7_board 123 = .ok (.iload_n 1, 1) := by decide +kernel
theorem dX7_board_124 : decode cX7_board 124 = .ok (.imul, 1) := by decide +kernel
theorem dX7_board_125 : decode cX7_board 125 = .ok (.iload 7, 2) := by decide +kernel
theorem dX7_board_127 : decode cX7_board 127 = .ok (.iadd, 1) := by decide +kernel
theorem dX7_board_128 : decode cX7_board 128 = .ok (.dload 4, 2) := by decide +kernel
theorem dX7_board_130 : decode cX7_board 130 = .ok (.dastore, 1) := by decide +kernel
theorem dX7_board_131 : decode cX7_board 131 = .ok (.iinc 7 1, 3) := by decide +kernel
theorem dX7_board_134 : decode cX7_board 134 = .ok (.goto (-26), 3) := by decide +kernel
theorem dX7_board_137 : decode cX7_board 137 = .ok (.return_, 1) := by decide +kernel
theorem dX7_rate_0 : decode cX7_rate 0 = .ok (.aload_n 0, 1) := by decide +kernel
theorem dX7_rate_1 : decode cX7_rate 1 = .ok (.iload_n 1, 1) := by decide +kernel
theorem dX7_rate_2 : decode cX7_rate 2 = .ok (.ifCond .lt 8, 3) := by decide +kernel
theorem dX7_rate_5 : decode cX7_rate 5 = .ok (.iload_n 1, 1) := by decide +kernel
theorem dX7_rate_6 : decode cX7_rate 6 = .ok (.iconst 4, 1) := by decide +kernel
theorem dX7_rate_7 : decode cX7_rate 7 = .ok (.if_icmp .lt 7, 3) := by decide +kernel
theorem dX7_rate_10 : decode cX7_rate 10 = .ok (.iconst 1, 1) := by decide +kernel
theorem dX7_rate_11 : decode cX7_rate 11 = .ok (.goto 31, 3) := by decide +kernel
theorem dX7_rate_14 : decode cX7_rate 14 = .ok (.dload_n 2, 1) := by decide +kernel
theorem dX7_rate_15 : decode cX7_rate 15 = .ok (.dconst 0, 1) := by decide +kernel
theorem dX7_rate_16 : decode cX7_rate 16 = .ok (.ldc2_w 93, 3) := by decide +kernel
theorem dX7_rate_19 : decode cX7_rate 19 = .ok (.invokestatic 87, 3) := by decide +kernel
theorem dX7_rate_22 : decode cX7_rate 22 = .ok (.ifCond .eq 19, 3) := by decide +kernel
theorem dX7_rate_25 : decode cX7_rate 25 = .ok (.dload 4, 2) := by decide +kernel
theorem dX7_rate_27 : decode cX7_rate 27 = .ok (.dconst 0, 1) := by decide +kernel
theorem dX7_rate_28 : decode cX7_rate 28 = .ok (.ldc2_w 93, 3) := by decide +kernel
theorem dX7_rate_31 : decode cX7_rate 31 = .ok (.invokestatic 87, 3) := by decide +kernel
theorem dX7_rate_34 : decode cX7_rate 34 = .ok (.ifCond .eq 7, 3) := by decide +kernel
theorem dX7_rate_37 : decode cX7_rate 37 = .ok (.iconst 0, 1) := by decide +kernel
theorem dX7_rate_38 : decode cX7_rate 38 = .ok (.goto 4, 3) := by decide +kernel
theorem dX7_rate_41 : decode cX7_rate 41 = .ok (.iconst 2, 1) := by decide +kernel
theorem dX7_rate_42 : decode cX7_rate 42 = .ok (.putfield 78, 3) := by decide +kernel
theorem dX7_rate_45 : decode cX7_rate 45 = .ok (.aload_n 0, 1) := by decide +kernel
theorem dX7_rate_46 : decode cX7_rate 46 = .ok (.getfield 78, 3) := by decide +kernel
theorem dX7_rate_49 : decode cX7_rate 49 = .ok (.ifCond .ne 18, 3) := by decide +kernel
theorem dX7_rate_52 : decode cX7_rate 52 = .ok (.aload_n 0, 1) := by decide +kernel
theorem dX7_rate_53 : decode cX7_rate 53 = .ok (.getfield 7, 3) := by decide +kernel
theorem dX7_rate_56 : decode cX7_rate 56 = .ok (.iload_n 1, 1) := by decide +kernel
theorem dX7_rate_57 : decode cX7_rate 57 = .ok (.dload_n 2, 1) := by decide +kernel
theorem dX7_rate_58 : decode cX7_rate 58 = .ok (.dastore, 1) := by decide +kernel
theorem dX7_rate_59 : decode cX7_rate 59 = .ok (.aload_n 0, 1) := by decide +kernel
theorem dX7_rate_60 : decode cX7_rate 60 = .ok (.getfield 13, 3) := by decide +kernel
theorem dX7_rate_63 : decode cX7_rate 63 = .ok (.iload_n 1, 1) := by decide +kernel
theorem dX7_rate_64 : decode cX7_rate 64 = .ok (.dload 4, 2) := by decide +kernel
theorem dX7_rate_66 : decode cX7_rate 66 = .ok (.dastore, 1) := by decide +kernel
theorem dX7_rate_67 : decode cX7_rate 67 = .ok (.return_, 1) := by decide +kernel
theorem dX7_air_0 : decode cX7_air 0 = .ok (.aload_n 0, 1) := by decide +kernel
theorem dX7_air_1 : decode cX7_air 1 = .ok (.dload_n 1, 1) := by decide +kernel
theorem dX7_air_2 : decode cX7_air 2 = .ok (.ldc2_w 95, 3) := by decide +kernel
theorem dX7_air_5 : decode cX7_air 5 = .ok (.ldc2_w 85, 3) := by decide +kernel
theorem dX7_air_8 : decode cX7_air 8 = .ok (.invokestatic 87, 3) := by decide +kernel
theorem dX7_air_11 : decode cX7_air 11 = .ok (.ifCond .eq 28, 3) := by decide +kernel
theorem dX7_air_14 : decode cX7_air 14 = .ok (.dload_n 3, 1) := by decide +kernel
theorem dX7_air_15 : decode cX7_air 15 = .ok (.dconst 0, 1) := by decide +kernel
theorem dX7_air_16 : decode cX7_air 16 = .ok (.dconst 1, 1) := by decide +kernel
theorem dX7_air_17 : decode cX7_air 17 = .ok (.invokestatic 87, 3) := by decide +kernel
theorem dX7_air_20 : decode cX7_air 20 = .ok (.ifCond .eq 19, 3) := by decide +kernel
theorem dX7_air_23 : decode cX7_air 23 = .ok (.dload 5, 2) := by decide +kernel
theorem dX7_air_25 : decode cX7_air 25 = .ok (.dconst 0, 1) := by decide +kernel
theorem dX7_air_26 : decode cX7_air 26 = .ok (.ldc2_w 97, 3) := by decide +kernel
theorem dX7_air_29 : decode cX7_air 29 = .ok (.invokestatic 87, 3) := by decide +kernel
theorem dX7_air_32 : decode cX7_air 32 = .ok (.ifCond .eq 7, 3) := by decide +kernel
theorem dX7_air_35 : decode cX7_air 35 = .ok (.iconst 0, 1) := by decide +kernel
theorem dX7_air_36 : decode cX7_air 36 = .ok (.goto 4, 3) := by decide +kernel
theorem dX7_air_39 : decode cX7_air 39 = .ok (.iconst 1, 1) := by decide +kernel
theorem dX7_air_40 : decode cX7_air 40 = .ok (.putfield 78, 3) := by decide +kernel
theorem dX7_air_43 : decode cX7_air 43 = .ok (.aload_n 0, 1) := by decide +kernel
theorem dX7_air_44 : decode cX7_air 44 = .ok (.getfield 78, 3) := by decide +kernel
theorem dX7_air_47 : decode cX7_air 47 = .ok (.ifCond .ne 19, 3) := by decide +kernel
theorem dX7_air_50 : decode cX7_air 50 = .ok (.aload_n 0, 1) := by decide +kernel
theorem dX7_air_51 : decode cX7_air 51 = .ok (.dload_n 1, 1) := by decide +kernel
theorem dX7_air_52 : decode cX7_air 52 = .ok (.putfield 18, 3) := by decide +kernel
theorem dX7_air_55 : decode cX7_air 55 = .ok (.aload_n 0, 1) := by decide +kernel
theorem dX7_air_56 : decode cX7_air 56 = .ok (.dload_n 3, 1) := by decide +kernel
theorem dX7_air_57 : decode cX7_air 57 = .ok (.putfield 24, 3) := by decide +kernel
theorem dX7_air_60 : decode cX7_air 60 = .ok (.aload_n 0, 1) := by decide +kernel
theorem dX7_air_61 : decode cX7_air 61 = .ok (.dload 5, 2) := by decide +kernel
theorem dX7_air_63 : decode cX7_air 63 = .ok (.putfield 27, 3) := by decide +kernel
theorem dX7_air_66 : decode cX7_air 66 = .ok (.return_, 1) := by decide +kernel
theorem dX7_vent_0 : decode cX7_vent 0 = .ok (.aload_n 0, 1) := by decide +kernel
theorem dX7_vent_1 : decode cX7_vent 1 = .ok (.dload_n 1, 1) := by decide +kernel
theorem dX7_vent_2 : decode cX7_vent 2 = .ok (.dconst 0, 1) := by decide +kernel
theorem dX7_vent_3 : decode cX7_vent 3 = .ok (.dconst 1, 1) := by decide +kernel
theorem dX7_vent_4 : decode cX7_vent 4 = .ok (.invokestatic 87, 3) := by decide +kernel
theorem dX7_vent_7 : decode cX7_vent 7 = .ok (.ifCond .eq 7, 3) := by decide +kernel
theorem dX7_vent_10 : decode cX7_vent 10 = .ok (.iconst 0, 1) := by decide +kernel
theorem dX7_vent_11 : decode cX7_vent 11 = .ok (.goto 4, 3) := by decide +kernel
theorem dX7_vent_14 : decode cX7_vent 14 = .ok (.iconst 1, 1) := by decide +kernel
theorem dX7_vent_15 : decode cX7_vent 15 = .ok (.putfield 78, 3) := by decide +kernel
theorem dX7_vent_18 : decode cX7_vent 18 = .ok (.aload_n 0, 1) := by decide +kernel
theorem dX7_vent_19 : decode cX7_vent 19 = .ok (.aload_n 0, 1) := by decide +kernel
theorem dX7_vent_20 : decode cX7_vent 20 = .ok (.getfield 78, 3) := by decide +kernel
theorem dX7_vent_23 : decode cX7_vent 23 = .ok (.ifCond .le 10, 3) := by decide +kernel
theorem dX7_vent_26 : decode cX7_vent 26 = .ok (.aload_n 0, 1) := by decide +kernel
theorem dX7_vent_27 : decode cX7_vent 27 = .ok (.getfield 99, 3) := by decide +kernel
theorem dX7_vent_30 : decode cX7_vent 30 = .ok (.goto 4, 3) := by decide +kernel
theorem dX7_vent_33 : decode cX7_vent 33 = .ok (.dload_n 1, 1) := by decide +kernel
theorem dX7_vent_34 : decode cX7_vent 34 = .ok (.putfield 99, 3) := by decide +kernel
theorem dX7_vent_37 : decode cX7_vent 37 = .ok (.return_, 1) := by decide +kernel
theorem dX7_soak_0 : decode cX7_soak 0 = .ok (.aload_n 0, 1) := by decide +kernel
theorem dX7_soak_1 : decode cX7_soak 1 = .ok (.aload_n 0, 1) := by decide +kernel
theorem dX7_soak_2 : decode cX7_soak 2 = .ok (.iload_n 1, 1) := by decide +kernel
theorem dX7_soak_3 : decode cX7_soak 3 = .ok (.iload_n 2, 1) := by decide +kernel
theorem dX7_soak_4 : decode cX7_soak 4 = .ok (.invokevirtual 102, 3) := by decide +kernel
theorem dX7_soak_7 : decode cX7_soak 7 = .ok (.ifCond .eq 7, 3) := by decide +kernel
theorem dX7_soak_10 : decode cX7_soak 10 = .ok (.iconst 1, 1) := by decide +kernel
theorem dX7_soak_11 : decode cX7_soak 11 = .ok (.goto 32, 3) := by decide +kernel
theorem dX7_soak_14 : decode cX7_soak 14 = .ok (.dload_n 3, 1) := by decide +kernel
theorem dX7_soak_15 : decode cX7_soak 15 = .ok (.dconst 0, 1) := by decide +kernel
theorem dX7_soak_16 : decode cX7_soak 16 = .ok (.ldc2_w 91, 3) := by decide +kernel
theorem dX7_soak_19 : decode cX7_soak 19 = .ok (.invokestatic 87, 3) := by decide +kernel
theorem dX7_soak_22 : decode cX7_soak 22 = .ok (.ifCond .ne 7, 3) := by decide +kernel
theorem dX7_soak_25 : decode cX7_soak 25 = .ok (.iconst 2, 1) := by decide +kernel
theorem dX7_soak_26 : decode cX7_soak 26 = .ok (.goto 17, 3) := by decide +kernel
theorem dX7_soak_29 : decode cX7_soak 29 = .ok (.aload_n 0, 1) := by decide +kernel
theorem dX7_soak_30 : decode cX7_soak 30 = .ok (.getfield 30, 3) := by decide +kernel
theorem dX7_soak_33 : decode cX7_soak 33 = .ok (.iload_n 1, 1) := by decide +kernel
theorem dX7_soak_34 : decode cX7_soak 34 = .ok (.baload, 1) := by decide +kernel
theorem dX7_soak_35 : decode cX7_soak 35 = .ok (.ifCond .eq 7, 3) := by decide +kernel
theorem dX7_soak_38 : decode cX7_soak 38 = .ok (.iconst 0, 1) := by decide +kernel
theorem dX7_soak_39 : decode cX7_soak 39 = .ok (.goto 4, 3) := by decide +kernel
theorem dX7_soak_42 : decode cX7_soak 42 = .ok (.iconst 3, 1) := by decide +kernel
theorem dX7_soak_43 : decode cX7_soak 43 = .ok (.putfield 78, 3) := by decide +kernel
theorem dX7_soak_46 : decode cX7_soak 46 = .ok (.aload_n 0, 1) := by decide +kernel
theorem dX7_soak_47 : decode cX7_soak 47 = .ok (.getfield 78, 3) := by decide +kernel
theorem dX7_soak_50 : decode cX7_soak 50 = .ok (.ifCond .ne 15, 3) := by decide +kernel
theorem dX7_soak_53 : decode cX7_soak 53 = .ok (.aload_n 0, 1) := by decide +kernel
theorem dX7_soak_54 : decode cX7_soak 54 = .ok (.getfield 41, 3) := by decide +kernel
theorem dX7_soak_57 : decode cX7_soak 57 = .ok (.bipush 16, 2) := by decide +kernel
theorem dX7_soak_59 : decode cX7_soak 59 = .ok (.iload_n 1, 1) := by decide +kernel
theorem dX7_soak_60 : decode cX7_soak 60 = .ok (.imul, 1) := by decide +kernel
theorem dX7_soak_61 : decode cX7_soak 61 = .ok (.iload_n 2, 1) := by decide +kernel
theorem dX7_soak_62 : decode cX7_soak 62 = .ok (.iadd, 1) := by decide +kernel
theorem dX7_soak_63 : decode cX7_soak 63 = .ok (.dload_n 3, 1) := by decide +kernel
theorem dX7_soak_64 : decode cX7_soak 64 = .ok (.dastore, 1) := by decide +kernel
theorem dX7_soak_65 : decode cX7_soak 65 = .ok (.return_, 1) := by decide +kernel
theorem dX7_unit_0 : decode cX7_unit 0 = .ok (.aload_n 0, 1) := by decide +kernel
theorem dX7_unit_1 : decode cX7_unit 1 = .ok (.iconst 0, 1) := by decide +kernel
theorem dX7_unit_2 : decode cX7_unit 2 = .ok (.putfield 78, 3) := by decide +kernel
theorem dX7_unit_5 : decode cX7_unit 5 = .ok (.iload_n 1, 1) := by decide +kernel
theorem dX7_unit_6 : decode cX7_unit 6 = .ok (.bipush 32, 2) := by decide +kernel
theorem dX7_unit_8 : decode cX7_unit 8 = .ok (.if_icmp .lt 19, 3) := by decide +kernel
theorem dX7_unit_11 : decode cX7_unit 11 = .ok (.iload_n 1, 1) := by decide +kernel
theorem dX7_unit_12 : decode cX7_unit 12 = .ok (.bipush 126, 2) := by decide +kernel
theorem dX7_unit_14 : decode cX7_unit 14 = .ok (.if_icmp .gt 13, 3) := by decide +kernel
theorem dX7_unit_17 : decode cX7_unit 17 = .ok (.aload_n 0, 1) := by decide +kernel
theorem dX7_unit_18 : decode cX7_unit 18 = .ok (.getfield 106, 3) := by decide +kernel
theorem dX7_unit_21 : decode cX7_unit 21 = .ok (.sipush 200, 3) := by decide +kernel
theorem dX7_unit_24 : decode cX7_unit 24 = .ok (.if_icmp .ne 5, 3) := by decide +kernel
theorem dX7_unit_27 : decode cX7_unit 27 = .ok (.iconst 0, 1) := by decide +kernel
theorem dX7_unit_28 : decode cX7_unit 28 = .ok (.ireturn, 1) := by decide +kernel
theorem dX7_unit_29 : decode cX7_unit 29 = .ok (.aload_n 0, 1) := by decide +kernel
theorem dX7_unit_30 : decode cX7_unit 30 = .ok (.getfield 56, 3) := by decide +kernel
theorem dX7_unit_33 : decode cX7_unit 33 = .ok (.aload_n 0, 1) := by decide +kernel
theorem dX7_unit_34 : decode cX7_unit 34 = .ok (.getfield 106, 3) := by decide +kernel
theorem dX7_unit_37 : decode cX7_unit 37 = .ok (.iload_n 1, 1) := by decide +kernel
theorem dX7_unit_38 : decode cX7_unit 38 = .ok (.iastore, 1) := by decide +kernel
theorem dX7_unit_39 : decode cX7_unit 39 = .ok (.aload_n 0, 1) := by decide +kernel
theorem dX7_unit_40 : decode cX7_unit 40 = .ok (.dup, 1) := by decide +kernel
theorem dX7_unit_41 : decode cX7_unit 41 = .ok (.getfield 106, 3) := by decide +kernel
theorem dX7_unit_44 : decode cX7_unit 44 = .ok (.iconst 1, 1) := by decide +kernel
theorem dX7_unit_45 : decode cX7_unit 45 = .ok (.iadd, 1) := by decide +kernel
theorem dX7_unit_46 : decode cX7_unit 46 = .ok (.putfield 106, 3) := by decide +kernel
theorem dX7_unit_49 : decode cX7_unit 49 = .ok (.iconst 1, 1) := by decide +kernel
theorem dX7_unit_50 : decode cX7_unit 50 = .ok (.ireturn, 1) := by decide +kernel
theorem dX7_fail_0 : decode cX7_fail 0 = .ok (.aload_n 0, 1) := by decide +kernel
theorem dX7_fail_1 : decode cX7_fail 1 = .ok (.iload_n 1, 1) := by decide +kernel
theorem dX7_fail_2 : decode cX7_fail 2 = .ok (.putfield 109, 3) := by decide +kernel
theorem dX7_fail_5 : decode cX7_fail 5 = .ok (.iconst 0, 1) := by decide +kernel
theorem dX7_fail_6 : decode cX7_fail 6 = .ok (.ireturn, 1) := by decide +kernel
theorem dX7_pass_0 : decode cX7_pass 0 = .ok (.aload_n 0, 1) := by decide +kernel
theorem dX7_pass_1 : decode cX7_pass 1 = .ok (.getfield 112, 3) := by decide +kernel
theorem dX7_pass_4 : decode cX7_pass 4 = .ok (.aload_n 0, 1) := by decide +kernel
theorem dX7_pass_5 : decode cX7_pass 5 = .ok (.getfield 106, 3) := by decide +kernel
theorem dX7_pass_8 : decode cX7_pass 8 = .ok (.if_icmp .ge 16, 3) := by decide +kernel
theorem dX7_pass_11 : decode cX7_pass 11 = .ok (.aload_n 0, 1) := by decide +kernel
theorem dX7_pass_12 : decode cX7_pass 12 = .ok (.getfield 56, 3) := by decide +kernel
theorem dX7_pass_15 : decode cX7_pass 15 = .ok (.aload_n 0, 1) := by decide +kernel
theorem dX7_pass_16 : decode cX7_pass 16 = .ok (.getfield 112, 3) := by decide +kernel
theorem dX7_pass_19 : decode cX7_pass 19 = .ok (.iaload, 1) := by decide +kernel
theorem dX7_pass_20 : decode cX7_pass 20 = .ok (.iload_n 1, 1) := by decide +kernel
theorem dX7_pass_21 : decode cX7_pass 21 = .ok (.if_icmp .eq 12, 3) := by decide +kernel
theorem dX7_pass_24 : decode cX7_pass 24 = .ok (.aload_n 0, 1) := by decide +kernel
theorem dX7_pass_25 : decode cX7_pass 25 = .ok (.aload_n 0, 1) := by decide +kernel
theorem dX7_pass_26 : decode cX7_pass 26 = .ok (.getfield 112, 3) := by decide +kernel
theorem dX7_pass_29 : decode cX7_pass 29 = .ok (.invokevirtual 115, 3) := by decide +kernel
theorem dX7_pass_32 : decode cX7_pass 32 = .ok (.ireturn, 1) := by decide +kernel
theorem dX7_pass_33 : decode cX7_pass 33 = .ok (.aload_n 0, 1) := by decide +kernel
theorem dX7_pass_34 : decode cX7_pass 34 = .ok (.dup, 1) := by decide +kernel
theorem dX7_pass_35 : decode cX7_pass 35 = .ok (.getfield 112, 3) := by decide +kernel
theorem dX7_pass_38 : decode cX7_pass 38 = .ok (.iconst 1, 1) := by decide +kernel
theorem dX7_pass_39 : decode cX7_pass 39 = .ok (.iadd, 1) := by decide +kernel
theorem dX7_pass_40 : decode cX7_pass 40 = .ok (.putfield 112, 3) := by decide +kernel
theorem dX7_pass_43 : decode cX7_pass 43 = .ok (.iconst 1, 1) := by decide +kernel
theorem dX7_pass_44 : decode cX7_pass 44 = .ok (.ireturn, 1) := by decide +kernel
theorem dX7_isDigit_0 : decode cX7_isDigit 0 = .ok (.aload_n 0, 1) := by decide +kernel
theorem dX7_isDigit_1 : decode cX7_isDigit 1 = .ok (.getfield 112, 3) := by decide +kernel
theorem dX7_isDigit_4 : decode cX7_isDigit 4 = .ok (.aload_n 0, 1) := by decide +kernel
theorem dX7_isDigit_5 : decode cX7_isDigit 5 = .ok (.getfield 106, 3) := by decide +kernel
theorem dX7_isDigit_8 : decode cX7_isDigit 8 = .ok (.if_icmp .ge 35, 3) := by decide +kernel
theorem dX7_isDigit_11 : decode cX7_isDigit 11 = .ok (.aload_n 0, 1) := by decide +kernel
theorem dX7_isDigit_12 : decode cX7_isDigit 12 = .ok (.getfield 56, 3) := by decide +kernel
theorem dX7_isDigit_15 : decode cX7_isDigit 15 = .ok (.aload_n 0, 1) := by decide +kernel
theorem dX7_isDigit_16 : decode cX7_isDigit 16 = .ok (.getfield 112, 3) := by decide +kernel
theorem dX7_isDigit_19 : decode cX7_isDigit 19 = .ok (.iaload, 1) := by decide +kernel
theorem dX7_isDigit_20 : decode cX7_isDigit 20 = .ok (.bipush 48, 2) := by decide +kernel
theorem dX7_isDigit_22 : decode cX7_isDigit 22 = .ok (.if_icmp .lt 21, 3) := by decide +kernel
theorem dX7_isDigit_25 : decode cX7_isDigit 25 = .ok (.aload_n 0, 1) := by decide +kernel
theorem dX7_isDigit_26 : decode cX7_isDigit 26 = .ok (.getfield 56, 3) := by decide +kernel
theorem dX7_isDigit_29 : decode cX7_isDigit 29 = .ok (.aload_n 0, 1) := by decide +kernel
theorem dX7_isDigit_30 : decode cX7_isDigit 30 = .ok (.getfield 112, 3) := by decide +kernel
theorem dX7_isDigit_33 : decode cX7_isDigit 33 = .ok (.iaload, 1) := by decide +kernel
theorem dX7_isDigit_34 : decode cX7_isDigit 34 = .ok (.bipush 57, 2) := by decide +kernel
theorem dX7_isDigit_36 : decode cX7_isDigit 36 = .ok (.if_icmp .gt 7, 3) := by decide +kernel
theorem dX7_isDigit_39 : decode cX7_isDigit 39 = .ok (.iconst 1, 1) := by decide +kernel
theorem dX7_isDigit_40 : decode cX7_isDigit 40 = .ok (.goto 4, 3) := by decide +kernel
theorem dX7_isDigit_43 : decode cX7_isDigit 43 = .ok (.iconst 0, 1) := by decide +kernel
theorem dX7_isDigit_44 : decode cX7_isDigit 44 = .ok (.ireturn, 1) := by decide +kernel
theorem dX7_passNumber_0 : decode cX7_passNumber 0 = .ok (.aload_n 0, 1) := by decide +kernel
theorem dX7_passNumber_1 : decode cX7_passNumber 1 = .ok (.getfield 112, 3) := by decide +kernel
theorem dX7_passNumber_4 : decode cX7_passNumber 4 = .ok (.istore_n 3, 1) := by decide +kernel
theorem dX7_passNumber_5 : decode cX7_passNumber 5 = .ok (.aload_n 0, 1) := by decide +kernel
theorem dX7_passNumber_6 : decode cX7_passNumber 6 = .ok (.iconst 0, 1) := by decide +kernel
theorem dX7_passNumber_7 : decode cX7_passNumber 7 = .ok (.putfield 118, 3) := by decide +kernel
theorem dX7_passNumber_10 : decode cX7_passNumber 10 = .ok (.aload_n 0, 1) := by decide +kernel
theorem dX7_passNumber_11 : decode cX7_passNumber 11 = .ok (.invokevirtual 121, 3) := by decide +kernel
theorem dX7_passNumber_14 : decode cX7_passNumber 14 = .ok (.ifCond .eq 50, 3) := by decide +kernel
theorem dX7_passNumber_17 : decode cX7_passNumber 17 = .ok (.aload_n 0, 1) := by decide +kernel
theorem dX7_passNumber_18 : decode cX7_passNumber 18 = .ok (.getfield 112, 3) := by decide +kernel
theorem dX7_passNumber_21 : decode cX7_passNumber 21 = .ok (.iload_n 3, 1) := by decide +kernel
theorem dX7_passNumber_22 : decode cX7_passNumber 22 = .ok (.iconst 3, 1) := by decide +kernel
theorem dX7_passNumber_23 : decode cX7_passNumber 23 = .ok (.iadd, 1) := by decide +kernel
theorem dX7_passNumber_24 : decode cX7_passNumber 24 = .ok (.if_icmp .ge 40, 3) := by decide +kernel
theorem dX7_passNumber_27 : decode cX7_passNumber 27 = .ok (.aload_n 0, 1) := by decide +kernel
theorem dX7_passNumber_28 : decode cX7_passNumber 28 = .ok (.bipush 10, 2) := by decide +kernel
theorem dX7_passNumber_30 : decode cX7_passNumber 30 = .ok (.aload_n 0, 1) := by decide +kernel
theorem dX7_passNumber_31 : decode cX7_passNumber 31 = .ok (.getfield 118, 3) := by decide +kernel
theorem dX7_passNumber_34 : decode cX7_passNumber 34 = .ok (.imul, 1) := by decide +kernel
theorem dX7_passNumber_35 : decode cX7_passNumber 35 = .ok (.aload_n 0, 1) := by decide +kernel
theorem dX7_passNumber_36 : decode cX7_passNumber 36 = .ok (.getfield 56, 3) := by decide +kernel
theorem dX7_passNumber_39 : decode cX7_passNumber 39 = .ok (.aload_n 0, 1) := by decide +kernel
theorem dX7_passNumber_40 : decode cX7_passNumber 40 = .ok (.getfield 112, 3) := by decide +kernel
theorem dX7_passNumber_43 : decode cX7_passNumber 43 = .ok (.iaload, 1) := by decide +kernel
theorem dX7_passNumber_44 : decode cX7_passNumber 44 = .ok (.iadd, 1) := by decide +kernel
theorem dX7_passNumber_45 : decode cX7_passNumber 45 = .ok (.bipush 48, 2) := by decide +kernel
theorem dX7_passNumber_47 : decode cX7_passNumber 47 = .ok (.isub, 1) := by decide +kernel
theorem dX7_passNumber_48 : decode cX7_passNumber 48 = .ok (.putfield 118, 3) := by decide +kernel
theorem dX7_passNumber_51 : decode cX7_passNumber 51 = .ok (.aload_n 0, 1) := by decide +kernel
theorem dX7_passNumber_52 : decode cX7_passNumber 52 = .ok (.dup, 1) := by decide +kernel
theorem dX7_passNumber_53 : decode cX7_passNumber 53 = .ok (.getfield 112, 3) := by decide +kernel
theorem dX7_passNumber_56 : decode cX7_passNumber 56 = .ok (.iconst 1, 1) := by decide +kernel
theorem dX7_passNumber_57 : decode cX7_passNumber 57 = .ok (.iadd, 1) := by decide +kernel
theorem dX7_passNumber_58 : decode cX7_passNumber 58 = .ok (.putfield 112, 3) := by decide +kernel
theorem dX7_passNumber_61 : decode cX7_passNumber 61 = .ok (.goto (-51), 3) := by decide +kernel
theorem dX7_passNumber_64 : decode cX7_passNumber 64 = .ok (.aload_n 0, 1) := by decide +kernel
theorem dX7_passNumber_65 : decode cX7_passNumber 65 = .ok (.getfield 112, 3) := by decide +kernel
theorem dX7_passNumber_68 : decode cX7_passNumber 68 = .ok (.iload_n 3, 1) := by decide +kernel
theorem dX7_passNumber_69 : decode cX7_passNumber 69 = .ok (.if_icmp .ne 12, 3) := by decide +kernel
theorem dX7_passNumber_72 : decode cX7_passNumber 72 = .ok (.aload_n 0, 1) := by decide +kernel
theorem dX7_passNumber_73 : decode cX7_passNumber 73 = .ok (.aload_n 0, 1) := by decide +kernel
theorem dX7_passNumber_74 : decode cX7_passNumber 74 = .ok (.getfield 112, 3) := by decide +kernel
theorem dX7_passNumber_77 : decode cX7_passNumber 77 = .ok (.invokevirtual 115, 3) := by decide +kernel
theorem dX7_passNumber_80 : decode cX7_passNumber 80 = .ok (.ireturn, 1) := by decide +kernel
theorem dX7_passNumber_81 : decode cX7_passNumber 81 = .ok (.aload_n 0, 1) := by decide +kernel
theorem dX7_passNumber_82 : decode cX7_passNumber 82 = .ok (.getfield 118, 3) := by decide +kernel
theorem dX7_passNumber_85 : decode cX7_passNumber 85 = .ok (.iload_n 1, 1) := by decide +kernel
theorem dX7_passNumber_86 : decode cX7_passNumber 86 = .ok (.if_icmp .lt 11, 3) := by decide +kernel
theorem dX7_passNumber_89 : decode cX7_passNumber 89 = .ok (.aload_n 0, 1) := by decide +kernel
theorem dX7_passNumber_90 : decode cX7_passNumber 90 = .ok (.getfield 118, 3) := by decide +kernel
theorem dX7_passNumber_93 : decode cX7_passNumber 93 = .ok (.iload_n 2, 1) := by decide +kernel
theorem dX7_passNumber_94 : decode cX7_passNumber 94 = .ok (.if_icmp .le 11, 3) := by decide +kernel
theorem dX7_passNumber_97 : decode cX7_passNumber 97 = .ok (.aload_n 0, 1) := by decide +kernel
theorem dX7_passNumber_98 : decode cX7_passNumber 98 = .ok (.iload_n 3, 1) := by decide +kernel
theorem dX7_passNumber_99 : decode cX7_passNumber 99 = .ok (.invokevirtual 115, 3) := by decide +kernel
theorem dX7_passNumber_102 : decode cX7_passNumber 102 = .ok (.ifCond .eq 7, 3) := by decide +kernel
theorem dX7_passNumber_105 : decode cX7_passNumber 105 = .ok (.iconst 1, 1) := by decide +kernel
theorem dX7_passNumber_106 : decode cX7_passNumber 106 = .ok (.goto 4, 3) := by decide +kernel
theorem dX7_passNumber_109 : decode cX7_passNumber 109 = .ok (.iconst 0, 1) := by decide +kernel
theorem dX7_passNumber_110 : decode cX7_passNumber 110 = .ok (.ireturn, 1) := by decide +kernel
theorem dX7_passStep_0 : decode cX7_passStep 0 = .ok (.aload_n 0, 1) := by decide +kernel
theorem dX7_passStep_1 : decode cX7_passStep 1 = .ok (.getfield 112, 3) := by decide +kernel
theorem dX7_passStep_4 : decode cX7_passStep 4 = .ok (.aload_n 0, 1) := by decide +kernel
theorem dX7_passStep_5 : decode cX7_passStep 5 = .ok (.getfield 106, 3) := by decide +kernel
theorem dX7_passStep_8 : decode cX7_passStep 8 = .ok (.if_icmp .ge 21, 3) := by decide +kernel
theorem dX7_passStep_11 : decode cX7_passStep 11 = .ok (.aload_n 0, 1) := by decide +kernel
theorem dX7_passStep_12 : decode cX7_passStep 12 = .ok (.getfield 56, 3) := by decide +kernel
theorem dX7_passStep_15 : decode cX7_passStep 15 = .ok (.aload_n 0, 1) := by decide +kernel
theorem dX7_passStep_16 : decode cX7_passStep 16 = .ok (.getfield 112, 3) := by decide +kernel
theorem dX7_passStep_19 : decode cX7_passStep 19 = .ok (.iaload, 1) := by decide +kernel
theorem dX7_passStep_20 : decode cX7_passStep 20 = .ok (.bipush 119, 2) := by decide +kernel
theorem dX7_passStep_22 : decode cX7_passStep 22 = .ok (.if_icmp .ne 7, 3) := by decide +kernel
theorem dX7_passStep_25 : decode cX7_passStep 25 = .ok (.iconst 1, 1) := by decide +kernel
theorem dX7_passStep_26 : decode cX7_passStep 26 = .ok (.goto 4, 3) := by decide +kernel
theorem dX7_passStep_29 : decode cX7_passStep 29 = .ok (.iconst 0, 1) := by decide +kernel
theorem dX7_passStep_30 : decode cX7_passStep 30 = .ok (.istore_n 1, 1) := by decide +kernel
theorem dX7_passStep_31 : decode cX7_passStep 31 = .ok (.iload_n 1, 1) := by decide +kernel
theorem dX7_passStep_32 : decode cX7_passStep 32 = .ok (.ifCond .ne 37, 3) := by decide +kernel
theorem dX7_passStep_35 : decode cX7_passStep 35 = .ok (.aload_n 0, 1) := by decide +kernel
theorem dX7_passStep_36 : decode cX7_passStep 36 = .ok (.getfield 112, 3) := by decide +kernel
theorem dX7_passStep_39 : decode cX7_passStep 39 = .ok (.aload_n 0, 1) := by decide +kernel
theorem dX7_passStep_40 : decode cX7_passStep 40 = .ok (.getfield 106, 3) := by decide +kernel
theorem dX7_passStep_43 : decode cX7_passStep 43 = .ok (.if_icmp .ge 17, 3) := by decide +kernel
theorem dX7_passStep_46 : decode cX7_passStep 46 = .ok (.aload_n 0, 1) := by decide +kernel
theorem dX7_passStep_47 : decode cX7_passStep 47 = .ok (.getfield 56, 3) := by decide +kernel
theorem dX7_passStep_50 : decode cX7_passStep 50 = .ok (.aload_n 0, 1) := by decide +kernel
theorem dX7_passStep_51 : decode cX7_passStep 51 = .ok (.getfield 112, 3) := by decide +kernel
theorem dX7_passStep_54 : decode cX7_passStep 54 = .ok (.iaload, 1) := by decide +kernel
theorem dX7_passStep_55 : decode cX7_passStep 55 = .ok (.bipush 104, 2) := by decide +kernel
theorem dX7_passStep_57 : decode cX7_passStep 57 = .ok (.if_icmp .eq 12, 3) := by decide +kernel
theorem dX7_passStep_60 : decode cX7_passStep 60 = .ok (.aload_n 0, 1) := by decide +kernel
theorem dX7_passStep_61 : decode cX7_passStep 61 = .ok (.aload_n 0, 1) := by decide +kernel
theorem dX7_passStep_62 : decode cX7_passStep 62 = .ok (.getfield 112, 3) := by decide +kernel
theorem dX7_passStep_65 : decode cX7_passStep 65 = .ok (.invokevirtual 115, 3) := by decide +kernel
theorem dX7_passStep_68 : decode cX7_passStep 68 = .ok (.ireturn, 1) := by decide +kernel
theorem dX7_passStep_69 : decode cX7_passStep 69 = .ok (.aload_n 0, 1) := by decide +kernel
theorem dX7_passStep_70 : decode cX7_passStep 70 = .ok (.dup, 1) := by decide +kernel
theorem dX7_passStep_71 : decode cX7_passStep 71 = .ok (.getfield 112, 3) := by decide +kernel
theorem dX7_passStep_74 : decode cX7_passStep 74 = .ok (.iconst 1, 1) := by decide +kernel
theorem dX7_passStep_75 : decode cX7_passStep 75 = .ok (.iadd, 1) := by decide +kernel
theorem dX7_passStep_76 : decode cX7_passStep 76 = .ok (.putfield 112, 3) := by decide +kernel
theorem dX7_passStep_79 : decode cX7_passStep 79 = .ok (.aload_n 0, 1) := by decide +kernel
theorem dX7_passStep_80 : decode cX7_passStep 80 = .ok (.getfield 59, 3) := by decide +kernel
theorem dX7_passStep_83 : decode cX7_passStep 83 = .ok (.aload_n 0, 1) := by decide +kernel
theorem dX7_passStep_84 : decode cX7_passStep 84 = .ok (.getfield 125, 3) := by decide +kernel
theorem dX7_passStep_87 : decode cX7_passStep 87 = .ok (.iload_n 1, 1) := by decide +kernel
theorem dX7_passStep_88 : decode cX7_passStep 88 = .ok (.bastore, 1) := by decide +kernel
theorem dX7_passStep_89 : decode cX7_passStep 89 = .ok (.aload_n 0, 1) := by decide +kernel
theorem dX7_passStep_90 : decode cX7_passStep 90 = .ok (.iconst 0, 1) := by decide +kernel
theorem dX7_passStep_91 : decode cX7_passStep 91 = .ok (.sipush 999, 3) := by decide +kernel
theorem dX7_passStep_94 : decode cX7_passStep 94 = .ok (.invokevirtual 128, 3) := by decide +kernel
theorem dX7_passStep_97 : decode cX7_passStep 97 = .ok (.ifCond .ne 5, 3) := by decide +kernel
theorem dX7_passStep_100 : decode cX7_passStep 100 = .ok (.iconst 0, 1) := by decide +kernel
theorem dX7_passStep_101 : decode cX7_passStep 101 = .ok (.ireturn, 1) := by decide +kernel
theorem dX7_passStep_102 : decode cX7_passStep 102 = .ok (.aload_n 0, 1) := by decide +kernel
theorem dX7_passStep_103 : decode cX7_passStep 103 = .ok (.getfield 62, 3) := by decide +kernel
theorem dX7_passStep_106 : decode cX7_passStep 106 = .ok (.aload_n 0, 1) := by decide +kernel
theorem dX7_passStep_107 : decode cX7_passStep 107 = .ok (.getfield 125, 3) := by decide +kernel
theorem dX7_passStep_110 : decode cX7_passStep 110 = .ok (.aload_n 0, 1) := by decide +kernel
theorem dX7_passStep_111 : decode cX7_passStep 111 = .ok (.getfield 118, 3) := by decide +kernel
theorem dX7_passStep_114 : decode cX7_passStep 114 = .ok (.iastore, 1) := by decide +kernel
theorem dX7_passStep_115 : decode cX7_passStep 115 = .ok (.aload_n 0, 1) := by decide +kernel
theorem dX7_passStep_116 : decode cX7_passStep 116 = .ok (.bipush 58, 2) := by decide +kernel
theorem dX7_passStep_118 : decode cX7_passStep 118 = .ok (.invokevirtual 131, 3) := by decide +kernel
theorem dX7_passStep_121 : decode cX7_passStep 121 = .ok (.ifCond .eq 16, 3) := by decide +kernel
theorem dX7_passStep_124 : decode cX7_passStep 124 = .ok (.aload_n 0, 1) := by decide +kernel
theorem dX7_passStep_125 : decode cX7_passStep 125 = .ok (.sipush 250, 3) := by decide +kernel
theorem dX7_passStep_128 : decode cX7_passStep 128 = .ok (.sipush 400, 3) := by decide +kernel
theorem dX7_passStep_131 : decode cX7_passStep 131 = .ok (.invokevirtual 128, 3) := by decide +kernel
theorem dX7_passStep_134 : decode cX7_passStep 134 = .ok (.ifCond .ne 5, 3) := by decide +kernel
theorem dX7_passStep_137 : decode cX7_passStep 137 = .ok (.iconst 0, 1) := by decide +kernel
theorem dX7_passStep_138 : decode cX7_passStep 138 = .ok (.ireturn, 1) := by decide +kernel
theorem dX7_passStep_139 : decode cX7_passStep 139 = .ok (.aload_n 0, 1) := by decide +kernel
theorem dX7_passStep_140 : decode cX7_passStep 140 = .ok (.getfield 65, 3) := by decide +kernel
theorem dX7_passStep_143 : decode cX7_passStep 143 = .ok (.aload_n 0, 1) := by decide +kernel
theorem dX7_passStep_144 : decode cX7_passStep 144 = .ok (.getfield 125, 3) := by decide +kernel
theorem dX7_passStep_147 : decode cX7_passStep 147 = .ok (.aload_n 0, 1) := by decide +kernel
theorem dX7_passStep_148 : decode cX7_passStep 148 = .ok (.getfield 118, 3) := by decide +kernel
theorem dX7_passStep_151 : decode cX7_passStep 151 = .ok (.iastore, 1) := by decide +kernel
theorem dX7_passStep_152 : decode cX7_passStep 152 = .ok (.aload_n 0, 1) := by decide +kernel
