theorem dX7_count_5 : decode cX7_count 5 = .ok (.iload_n 1, 1) := by decide +kernel
theorem dX7_count_6 : decode cX7_count 6 = .ok (.iconst 2, 1) := by decide +kernel
theorem dX7_count_7 : decode cX7_count 7 = .ok (.if_icmp .le 7, 3) := by decide +kernel
theorem dX7_count_10 : decode cX7_count 10 = .ok (.iconst 1, 1) := by decide +kernel
theorem dX7_count_11 : decode cX7_count 11 = .ok (.goto 4, 3) := by decide +kernel
theorem dX7_count_14 : decode cX7_count 14 = .ok (.iconst 0, 1) := by decide +kernel
theorem dX7_count_15 : decode cX7_count 15 = .ok (.putfield 78, 3) := by decide +kernel
theorem dX7_count_18 : decode cX7_count 18 = .ok (.aload_n 0, 1) := by decide +kernel
theorem dX7_count_19 : decode cX7_count 19 = .ok (.getfield 78, 3) := by decide +kernel
theorem dX7_count_22 : decode cX7_count 22 = .ok (.ifCond .gt 8, 3) := by decide +kernel
theorem dX7_count_25 : decode cX7_count 25 = .ok (.iload_n 1, 1) := by decide +kernel
theorem dX7_count_26 : decode cX7_count 26 = .ok (.iconst 2, 1) := by decide +kernel
theorem dX7_count_27 : decode cX7_count 27 = .ok (.if_icmp .ge 30, 3) := by decide +kernel
theorem dX7_count_30 : decode cX7_count 30 = .ok (.aload_n 0, 1) := by decide +kernel
theorem dX7_count_31 : decode cX7_count 31 = .ok (.getfield 78, 3) := by decide +kernel
theorem dX7_count_34 : decode cX7_count 34 = .ok (.ifCond .le 7, 3) := by decide +kernel
theorem dX7_count_37 : decode cX7_count 37 = .ok (.iconst 0, 1) := by decide +kernel
theorem dX7_count_38 : decode cX7_count 38 = .ok (.goto 18, 3) := by decide +kernel
theorem dX7_count_41 : decode cX7_count 41 = .ok (.iload_n 1, 1) := by decide +kernel
theorem dX7_count_42 : decode cX7_count 42 = .ok (.ifCond .ne 10, 3) := by decide +kernel
theorem dX7_count_45 : decode cX7_count 45 = .ok (.aload_n 0, 1) := by decide +kernel
theorem dX7_count_46 : decode cX7_count 46 = .ok (.getfield 152, 3) := by decide +kernel
theorem dX7_count_49 : decode cX7_count 49 = .ok (.goto 7, 3) := by decide +kernel
theorem dX7_count_52 : decode cX7_count 52 = .ok (.aload_n 0, 1) := by decide +kernel
theorem dX7_count_53 : decode cX7_count 53 = .ok (.getfield 134, 3) := by decide +kernel
theorem dX7_count_56 : decode cX7_count 56 = .ok (.ireturn, 1) := by decide +kernel
theorem dX7_count_57 : decode cX7_count 57 = .ok (.iconst 0, 1) := by decide +kernel
theorem dX7_count_58 : decode cX7_count 58 = .ok (.istore_n 2, 1) := by decide +kernel
theorem dX7_count_59 : decode cX7_count 59 = .ok (.iconst 0, 1) := by decide +kernel
theorem dX7_count_60 : decode cX7_count 60 = .ok (.istore_n 3, 1) := by decide +kernel
theorem dX7_count_61 : decode cX7_count 61 = .ok (.iload_n 3, 1) := by decide +kernel
theorem dX7_count_62 : decode cX7_count 62 = .ok (.aload_n 0, 1) := by decide +kernel
theorem dX7_count_63 : decode cX7_count 63 = .ok (.getfield 75, 3) := by decide +kernel
theorem dX7_count_66 : decode cX7_count 66 = .ok (.if_icmp .ge 26, 3) := by decide +kernel
theorem dX7_count_69 : decode cX7_count 69 = .ok (.aload_n 0, 1) := by decide +kernel
theorem dX7_count_70 : decode cX7_count 70 = .ok (.getfield 30, 3) := by decide +kernel
theorem dX7_count_73 : decode cX7_count 73 = .ok (.iload_n 3, 1) := by decide +kernel
theorem dX7_count_74 : decode cX7_count 74 = .ok (.baload, 1) := by decide +kernel
theorem dX7_count_75 : decode cX7_count 75 = .ok (.ifCond .eq 9, 3) := by decide +kernel
theorem dX7_count_78 : decode cX7_count 78 = .ok (.iload_n 2, 1) := by decide +kernel
theorem dX7_count_79 : decode cX7_count 79 = .ok (.iconst 1, 1) := by decide +kernel
theorem dX7_count_80 : decode cX7_count 80 = .ok (.iadd, 1) := by decide +kernel
theorem dX7_count_81 : decode cX7_count 81 = .ok (.goto 4, 3) := by decide +kernel
theorem dX7_count_84 : decode cX7_count 84 = .ok (.iload_n 2, 1) := by decide +kernel
theorem dX7_count_85 : decode cX7_count 85 = .ok (.istore_n 2, 1) := by decide +kernel
theorem dX7_count_86 : decode cX7_count 86 = .ok (.iinc 3 1, 3) := by decide +kernel
theorem dX7_count_89 : decode cX7_count 89 = .ok (.goto (-28), 3) := by decide +kernel
theorem dX7_count_92 : decode cX7_count 92 = .ok (.iload_n 2, 1) := by decide +kernel
theorem dX7_count_93 : decode cX7_count 93 = .ok (.ireturn, 1) := by decide +kernel
theorem dJx00060_init_a7421_0 : decode cJx00060_init_a7421 0 = .ok (.aload_n 0, 1) := by decide +kernel
theorem dJx00060_init_a7421_1 : decode cJx00060_init_a7421 1 = .ok (.aload_n 1, 1) := by decide +kernel
theorem dJx00060_init_a7421_2 : decode cJx00060_init_a7421 2 = .ok (.invokespecial 7, 3) := by decide +kernel
theorem dJx00060_init_a7421_5 : decode cJx00060_init_a7421 5 = .ok (.return_, 1) := by decide +kernel
theorem dJ9_max_7cf53_0 : decode cJ9_max_7cf53 0 = .ok (.iload_n 0, 1) := by decide +kernel
theorem dJ9_max_7cf53_1 : decode cJ9_max_7cf53 1 = .ok (.iload_n 1, 1) := by decide +kernel
theorem dJ9_max_7cf53_2 : decode cJ9_max_7cf53 2 = .ok (.if_icmp .lt 7, 3) := by decide +kernel
theorem dJ9_max_7cf53_5 : decode cJ9_max_7cf53 5 = .ok (.iload_n 0, 1) := by decide +kernel
theorem dJ9_max_7cf53_6 : decode cJ9_max_7cf53 6 = .ok (.goto 4, 3) := by decide +kernel
theorem dJ9_max_7cf53_9 : decode cJ9_max_7cf53 9 = .ok (.iload_n 1, 1) := by decide +kernel
theorem dJ9_max_7cf53_10 : decode cJ9_max_7cf53 10 = .ok (.ireturn, 1) := by decide +kernel
theorem dJ9_min_7cf53_0 : decode cJ9_min_7cf53 0 = .ok (.iload_n 0, 1) := by decide +kernel
theorem dJ9_min_7cf53_1 : decode cJ9_min_7cf53 1 = .ok (.iload_n 1, 1) := by decide +kernel
theorem dJ9_min_7cf53_2 : decode cJ9_min_7cf53 2 = .ok (.if_icmp .gt 7, 3) := by decide +kernel
theorem dJ9_min_7cf53_5 : decode cJ9_min_7cf53 5 = .ok (.iload_n 0, 1) := by decide +kernel
theorem dJ9_min_7cf53_6 : decode cJ9_min_7cf53 6 = .ok (.goto 4, 3) := by decide +kernel
theorem dJ9_min_7cf53_9 : decode cJ9_min_7cf53 9 = .ok (.iload_n 1, 1) := by decide +kernel
theorem dJ9_min_7cf53_10 : decode cJ9_min_7cf53 10 = .ok (.ireturn, 1) := by decide +kernel
theorem dL_cell_0 : decode cL_cell 0 = .ok (.iload_n 1, 1) := by decide +kernel
theorem dL_cell_1 : decode cL_cell 1 = .ok (.aload_n 0, 1) := by decide +kernel
theorem dL_cell_2 : decode cL_cell 2 = .ok (.arraylength, 1) := by decide +kernel
theorem dL_cell_3 : decode cL_cell 3 = .ok (.if_icmp .ge 9, 3) := by decide +kernel
theorem dL_cell_6 : decode cL_cell 6 = .ok (.aload_n 0, 1) := by decide +kernel
theorem dL_cell_7 : decode cL_cell 7 = .ok (.iload_n 1, 1) := by decide +kernel
theorem dL_cell_8 : decode cL_cell 8 = .ok (.iaload, 1) := by decide +kernel
theorem dL_cell_9 : decode cL_cell 9 = .ok (.goto 4, 3) := by decide +kernel
theorem dL_cell_12 : decode cL_cell 12 = .ok (.iconst 0, 1) := by decide +kernel
theorem dL_cell_13 : decode cL_cell 13 = .ok (.ireturn, 1) := by decide +kernel
theorem dL_board_0 : decode cL_board 0 = .ok (.aload_n 0, 1) := by decide +kernel
theorem dL_board_1 : decode cL_board 1 = .ok (.iload_n 1, 1) := by decide +kernel
theorem dL_board_2 : decode cL_board 2 = .ok (.dload_n 2, 1) := by decide +kernel
theorem dL_board_3 : decode cL_board 3 = .ok (.dload 4, 2) := by decide +kernel
theorem dL_board_5 : decode cL_board 5 = .ok (.iload 6, 2) := by decide +kernel
theorem dL_board_7 : decode cL_board 7 = .ok (.invokevirtual 7, 3) := by decide +kernel
theorem dL_board_10 : decode cL_board 10 = .ok (.goto 11, 3) := by decide +kernel
theorem dL_board_13 : decode cL_board 13 = .ok (.astore 7, 2) := by decide +kernel
theorem dL_board_15 : decode cL_board 15 = .ok (.iconst 1, 1) := by decide +kernel
theorem dL_board_16 : decode cL_board 16 = .ok (.ireturn, 1) := by decide +kernel
theorem dL_board_17 : decode cL_board 17 = .ok (.astore 7, 2) := by decide +kernel
theorem dL_board_19 : decode cL_board 19 = .ok (.iconst 2, 1) := by decide +kernel
theorem dL_board_20 : decode cL_board 20 = .ok (.ireturn, 1) := by decide +kernel
theorem dL_board_21 : decode cL_board 21 = .ok (.iconst 0, 1) := by decide +kernel
theorem dL_board_22 : decode cL_board 22 = .ok (.ireturn, 1) := by decide +kernel
theorem dL_rate_0 : decode cL_rate 0 = .ok (.aload_n 0, 1) := by decide +kernel
theorem dL_rate_1 : decode cL_rate 1 = .ok (.iload_n 1, 1) := by decide +kernel
theorem dL_rate_2 : decode cL_rate 2 = .ok (.dload_n 2, 1) := by decide +kernel
theorem dL_rate_3 : decode cL_rate 3 = .ok (.dload 4, 2) := by decide +kernel
theorem dL_rate_5 : decode cL_rate 5 = .ok (.invokevirtual 17, 3) := by decide +kernel
theorem dL_rate_8 : decode cL_rate 8 = .ok (.goto 11, 3) := by decide +kernel
theorem dL_rate_11 : decode cL_rate 11 = .ok (.astore 6, 2) := by decide +kernel
theorem dL_rate_13 : decode cL_rate 13 = .ok (.iconst 1, 1) := by decide +kernel
theorem dL_rate_14 : decode cL_rate 14 = .ok (.ireturn, 1) := by decide +kernel
theorem dL_rate_15 : decode cL_rate 15 = .ok (.astore 6, 2) := by decide +kernel
theorem dL_rate_17 : decode cL_rate 17 = .ok (.iconst 2, 1) := by decide +kernel
theorem dL_rate_18 : decode cL_rate 18 = .ok (.ireturn, 1) := by decide +kernel
theorem dL_rate_19 : decode cL_rate 19 = .ok (.iconst 0, 1) := by decide +kernel
theorem dL_rate_20 : decode cL_rate 20 = .ok (.ireturn, 1) := by decide +kernel
theorem dL_air_0 : decode cL_air 0 = .ok (.aload_n 0, 1) := by decide +kernel
theorem dL_air_1 : decode cL_air 1 = .ok (.dload_n 1, 1) := by decide +kernel
theorem dL_air_2 : decode cL_air 2 = .ok (.dload_n 3, 1) := by decide +kernel
theorem dL_air_3 : decode cL_air 3 = .ok (.dload 5, 2) := by decide +kernel
theorem dL_air_5 : decode cL_air 5 = .ok (.invokevirtual 21, 3) := by decide +kernel
theorem dL_air_8 : decode cL_air 8 = .ok (.goto 7, 3) := by decide +kernel
theorem dL_air_11 : decode cL_air 11 = .ok (.astore 7, 2) := by decide +kernel
theorem dL_air_13 : decode cL_air 13 = .ok (.iconst 1, 1) := by decide +kernel
theorem dL_air_14 : decode cL_air 14 = .ok (.ireturn, 1) := by decide +kernel
theorem dL_air_15 : decode cL_air 15 = .ok (.iconst 0, 1) := by decide +kernel
theorem dL_air_16 : decode cL_air 16 = .ok (.ireturn, 1) := by decide +kernel
theorem dL_vent_0 : decode cL_vent 0 = .ok (.aload_n 0, 1) := by decide +kernel
theorem dL_vent_1 : decode cL_vent 1 = .ok (.dload_n 1, 1) := by decide +kernel
theorem dL_vent_2 : decode cL_vent 2 = .ok (.invokevirtual 25, 3) := by decide +kernel
theorem dL_vent_5 : decode cL_vent 5 = .ok (.goto 6, 3) := by decide +kernel
theorem dL_vent_8 : decode cL_vent 8 = .ok (.astore_n 3, 1) := by decide +kernel
theorem dL_vent_9 : decode cL_vent 9 = .ok (.iconst 1, 1) := by decide +kernel
theorem dL_vent_10 : decode cL_vent 10 = .ok (.ireturn, 1) := by decide +kernel
theorem dL_vent_11 : decode cL_vent 11 = .ok (.iconst 0, 1) := by decide +kernel
theorem dL_vent_12 : decode cL_vent 12 = .ok (.ireturn, 1) := by decide +kernel
theorem dL_soak_0 : decode cL_soak 0 = .ok (.aload_n 0, 1) := by decide +kernel
theorem dL_soak_1 : decode cL_soak 1 = .ok (.iload_n 1, 1) := by decide +kernel
theorem dL_soak_2 : decode cL_soak 2 = .ok (.iload_n 2, 1) := by decide +kernel
theorem dL_soak_3 : decode cL_soak 3 = .ok (.dload_n 3, 1) := by decide +kernel
theorem dL_soak_4 : decode cL_soak 4 = .ok (.invokevirtual 29, 3) := by decide +kernel
theorem dL_soak_7 : decode cL_soak 7 = .ok (.goto 15, 3) := by decide +kernel
theorem dL_soak_10 : decode cL_soak 10 = .ok (.astore 5, 2) := by decide +kernel
theorem dL_soak_12 : decode cL_soak 12 = .ok (.iconst 1, 1) := by decide +kernel
theorem dL_soak_13 : decode cL_soak 13 = .ok (.ireturn, 1) := by decide +kernel
theorem dL_soak_14 : decode cL_soak 14 = .ok (.astore 5, 2) := by decide +kernel
theorem dL_soak_16 : decode cL_soak 16 = .ok (.iconst 2, 1) := by decide +kernel
theorem dL_soak_17 : decode cL_soak 17 = .ok (.ireturn, 1) := by decide +kernel
theorem dL_soak_18 : decode cL_soak 18 = .ok (.astore 5, 2) := by decide +kernel
theorem dL_soak_20 : decode cL_soak 20 = .ok (.iconst 3, 1) := by decide +kernel
theorem dL_soak_21 : decode cL_soak 21 = .ok (.ireturn, 1) := by decide +kernel
theorem dL_soak_22 : decode cL_soak 22 = .ok (.iconst 0, 1) := by decide +kernel
theorem dL_soak_23 : decode cL_soak 23 = .ok (.ireturn, 1) := by decide +kernel
theorem dL_run_0 : decode cL_run 0 = .ok (.aload_n 2, 1) := by decide +kernel
theorem dL_run_1 : decode cL_run 1 = .ok (.iconst 0, 1) := by decide +kernel
theorem dL_run_2 : decode cL_run 2 = .ok (.aload_n 0, 1) := by decide +kernel
theorem dL_run_3 : decode cL_run 3 = .ok (.iload_n 1, 1) := by decide +kernel
theorem dL_run_4 : decode cL_run 4 = .ok (.invokevirtual 35, 3) := by decide +kernel
theorem dL_run_7 : decode cL_run 7 = .ok (.i2l, 1) := by decide +kernel
theorem dL_run_8 : decode cL_run 8 = .ok (.lastore, 1) := by decide +kernel
theorem dL_run_9 : decode cL_run 9 = .ok (.goto 6, 3) := by decide +kernel
theorem dL_run_12 : decode cL_run 12 = .ok (.astore_n 3, 1) := by decide +kernel
theorem dL_run_13 : decode cL_run 13 = .ok (.iconst 1, 1) := by decide +kernel
theorem dL_run_14 : decode cL_run 14 = .ok (.ireturn, 1) := by decide +kernel
theorem dL_run_15 : decode cL_run 15 = .ok (.iconst 0, 1) := by decide +kernel
theorem dL_run_16 : decode cL_run 16 = .ok (.ireturn, 1) := by decide +kernel
theorem dL_limit_0 : decode cL_limit 0 = .ok (.aload_n 0, 1) := by decide +kernel
theorem dL_limit_1 : decode cL_limit 1 = .ok (.iload_n 1, 1) := by decide +kernel
theorem dL_limit_2 : decode cL_limit 2 = .ok (.dload_n 2, 1) := by decide +kernel
theorem dL_limit_3 : decode cL_limit 3 = .ok (.invokevirtual 39, 3) := by decide +kernel
theorem dL_limit_6 : decode cL_limit 6 = .ok (.goto 15, 3) := by decide +kernel
theorem dL_limit_9 : decode cL_limit 9 = .ok (.astore 4, 2) := by decide +kernel
theorem dL_limit_11 : decode cL_limit 11 = .ok (.iconst 1, 1) := by decide +kernel
theorem dL_limit_12 : decode cL_limit 12 = .ok (.ireturn, 1) := by decide +kernel
theorem dL_limit_13 : decode cL_limit 13 = .ok (.astore 4, 2) := by decide +kernel
theorem dL_limit_15 : decode cL_limit 15 = .ok (.iconst 2, 1) := by decide +kernel
theorem dL_limit_16 : decode cL_limit 16 = .ok (.ireturn, 1) := by decide +kernel
theorem dL_limit_17 : decode cL_limit 17 = .ok (.astore 4, 2) := by decide +kernel
theorem dL_limit_19 : decode cL_limit 19 = .ok (.iconst 3, 1) := by decide +kernel
theorem dL_limit_20 : decode cL_limit 20 = .ok (.ireturn, 1) := by decide +kernel
theorem dL_limit_21 : decode cL_limit 21 = .ok (.iconst 0, 1) := by decide +kernel
theorem dL_limit_22 : decode cL_limit 22 = .ok (.ireturn, 1) := by decide +kernel
theorem dL_check_0 : decode cL_check 0 = .ok (.aload_n 2, 1) := by decide +kernel
theorem dL_check_1 : decode cL_check 1 = .ok (.iconst 0, 1) := by decide +kernel
theorem dL_check_2 : decode cL_check 2 = .ok (.aload_n 0, 1) := by decide +kernel
theorem dL_check_3 : decode cL_check 3 = .ok (.iload_n 1, 1) := by decide +kernel
theorem dL_check_4 : decode cL_check 4 = .ok (.invokevirtual 43, 3) := by decide +kernel
theorem dL_check_7 : decode cL_check 7 = .ok (.i2l, 1) := by decide +kernel
theorem dL_check_8 : decode cL_check 8 = .ok (.lastore, 1) := by decide +kernel
theorem dL_check_9 : decode cL_check 9 = .ok (.goto 9, 3) := by decide +kernel
theorem dL_check_12 : decode cL_check 12 = .ok (.astore_n 3, 1) := by decide +kernel
theorem dL_check_13 : decode cL_check 13 = .ok (.iconst 1, 1) := by decide +kernel
theorem dL_check_14 : decode cL_check 14 = .ok (.ireturn, 1) := by decide +kernel
theorem dL_check_15 : decode cL_check 15 = .ok (.astore_n 3, 1) := by decide +kernel
theorem dL_check_16 : decode cL_check 16 = .ok (.iconst 2, 1) := by decide +kernel
theorem dL_check_17 : decode cL_check 17 = .ok (.ireturn, 1) := by decide +kernel
theorem dL_check_18 : decode cL_check 18 = .ok (.iconst 0, 1) := by decide +kernel
theorem dL_check_19 : decode cL_check 19 = .ok (.ireturn, 1) := by decide +kernel
theorem dL_wet_0 : decode cL_wet 0 = .ok (.aload_n 3, 1) := by decide +kernel
theorem dL_wet_1 : decode cL_wet 1 = .ok (.iconst 0, 1) := by decide +kernel
theorem dL_wet_2 : decode cL_wet 2 = .ok (.aload_n 0, 1) := by decide +kernel
theorem dL_wet_3 : decode cL_wet 3 = .ok (.iload_n 1, 1) := by decide +kernel
theorem dL_wet_4 : decode cL_wet 4 = .ok (.iload_n 2, 1) := by decide +kernel
theorem dL_wet_5 : decode cL_wet 5 = .ok (.invokevirtual 46, 3) := by decide +kernel
theorem dL_wet_8 : decode cL_wet 8 = .ok (.dastore, 1) := by decide +kernel
theorem dL_wet_9 : decode cL_wet 9 = .ok (.goto 11, 3) := by decide +kernel
theorem dL_wet_12 : decode cL_wet 12 = .ok (.astore 4, 2) := by decide +kernel
theorem dL_wet_14 : decode cL_wet 14 = .ok (.iconst 1, 1) := by decide +kernel
theorem dL_wet_15 : decode cL_wet 15 = .ok (.ireturn, 1) := by decide +kernel
theorem dL_wet_16 : decode cL_wet 16 = .ok (.astore 4, 2) := by decide +kernel
theorem dL_wet_18 : decode cL_wet 18 = .ok (.iconst 2, 1) := by decide +kernel
theorem dL_wet_19 : decode cL_wet 19 = .ok (.ireturn, 1) := by decide +kernel
theorem dL_wet_20 : decode cL_wet 20 = .ok (.iconst 0, 1) := by decide +kernel
theorem dL_wet_21 : decode cL_wet 21 = .ok (.ireturn, 1) := by decide +kernel
theorem dL_mean_0 : decode cL_mean 0 = .ok (.aload_n 2, 1) := by decide +kernel
theorem dL_mean_1 : decode cL_mean 1 = .ok (.iconst 0, 1) := by decide +kernel
theorem dL_mean_2 : decode cL_mean 2 = .ok (.aload_n 0, 1) := by decide +kernel
theorem dL_mean_3 : decode cL_mean 3 = .ok (.iload_n 1, 1) := by decide +kernel
theorem dL_mean_4 : decode cL_mean 4 = .ok (.invokevirtual 50, 3) := by decide +kernel
theorem dL_mean_7 : decode cL_mean 7 = .ok (.dastore, 1) := by decide +kernel
theorem dL_mean_8 : decode cL_mean 8 = .ok (.goto 9, 3) := by decide +kernel
theorem dL_mean_11 : decode cL_mean 11 = .ok (.astore_n 3, 1) := by decide +kernel
theorem dL_mean_12 : decode cL_mean 12 = .ok (.iconst 1, 1) := by decide +kernel
theorem dL_mean_13 : decode cL_mean 13 = .ok (.ireturn, 1) := by decide +kernel
theorem dL_mean_14 : decode cL_mean 14 = .ok (.astore_n 3, 1) := by decide +kernel
theorem dL_mean_15 : decode cL_mean 15 = .ok (.iconst 2, 1) := by decide +kernel
theorem dL_mean_16 : decode cL_mean 16 = .ok (.ireturn, 1) := by decide +kernel
theorem dL_mean_17 : decode cL_mean 17 = .ok (.iconst 0, 1) := by decide +kernel
theorem dL_mean_18 : decode cL_mean 18 = .ok (.ireturn, 1) := by decide +kernel
theorem dL_stress_0 : decode cL_stress 0 = .ok (.aload_n 3, 1) := by decide +kernel
theorem dL_stress_1 : decode cL_stress 1 = .ok (.iconst 0, 1) := by decide +kernel
theorem dL_stress_2 : decode cL_stress 2 = .ok (.aload_n 0, 1) := by decide +kernel
theorem dL_stress_3 : decode cL_stress 3 = .ok (.iload_n 1, 1) := by decide +kernel
theorem dL_stress_4 : decode cL_stress 4 = .ok (.iload_n 2, 1) := by decide +kernel
theorem dL_stress_5 : decode cL_stress 5 = .ok (.invokevirtual 54, 3) := by decide +kernel
theorem dL_stress_8 : decode cL_stress 8 = .ok (.dastore, 1) := by decide +kernel
theorem dL_stress_9 : decode cL_stress 9 = .ok (.goto 11, 3) := by decide +kernel
theorem dL_stress_12 : decode cL_stress 12 = .ok (.astore 4, 2) := by decide +kernel
theorem dL_stress_14 : decode cL_stress 14 = .ok (.iconst 1, 1) := by decide +kernel
theorem dL_stress_15 : decode cL_stress 15 = .ok (.ireturn, 1) := by decide +kernel
theorem dL_stress_16 : decode cL_stress 16 = .ok (.astore 4, 2) := by decide +kernel
theorem dL_stress_18 : decode cL_stress 18 = .ok (.iconst 2, 1) := by decide +kernel
theorem dL_stress_19 : decode cL_stress 19 = .ok (.ireturn, 1) := by decide +kernel
theorem dL_stress_20 : decode cL_stress 20 = .ok (.iconst 0, 1) := by decide +kernel
theorem dL_stress_21 : decode cL_stress 21 = .ok (.ireturn, 1) := by decide +kernel
theorem dL_told_0 : decode cL_told 0 = .ok (.aload_n 2, 1) := by decide +kernel
theorem dL_told_1 : decode cL_told 1 = .ok (.iconst 0, 1) := by decide +kernel
theorem dL_told_2 : decode cL_told 2 = .ok (.aload_n 0, 1) := by decide +kernel
theorem dL_told_3 : decode cL_told 3 = .ok (.iload_n 1, 1) := by decide +kernel
theorem dL_told_4 : decode cL_told 4 = .ok (.invokevirtual 57, 3) := by decide +kernel
theorem dL_told_7 : decode cL_told 7 = .ok (.dastore, 1) := by decide +kernel
theorem dL_told_8 : decode cL_told 8 = .ok (.goto 6, 3) := by decide +kernel
theorem dL_told_11 : decode cL_told 11 = .ok (.astore_n 3, 1) := by decide +kernel
theorem dL_told_12 : decode cL_told 12 = .ok (.iconst 1, 1) := by decide +kernel
theorem dL_told_13 : decode cL_told 13 = .ok (.ireturn, 1) := by decide +kernel
theorem dL_told_14 : decode cL_told 14 = .ok (.iconst 0, 1) := by decide +kernel
theorem dL_told_15 : decode cL_told 15 = .ok (.ireturn, 1) := by decide +kernel
theorem dL_count_0 : decode cL_count 0 = .ok (.aload_n 2, 1) := by decide +kernel
theorem dL_count_1 : decode cL_count 1 = .ok (.iconst 0, 1) := by decide +kernel
theorem dL_count_2 : decode cL_count 2 = .ok (.aload_n 0, 1) := by decide +kernel
theorem dL_count_3 : decode cL_count 3 = .ok (.iload_n 1, 1) := by decide +kernel
theorem dL_count_4 : decode cL_count 4 = .ok (.invokevirtual 60, 3) := by decide +kernel
theorem dL_count_7 : decode cL_count 7 = .ok (.i2l, 1) := by decide +kernel
theorem dL_count_8 : decode cL_count 8 = .ok (.lastore, 1) := by decide +kernel
theorem dL_count_9 : decode cL_count 9 = .ok (.goto 6, 3) := by decide +kernel
theorem dL_count_12 : decode cL_count 12 = .ok (.astore_n 3, 1) := by decide +kernel
theorem dL_count_13 : decode cL_count 13 = .ok (.iconst 1, 1) := by decide +kernel
theorem dL_count_14 : decode cL_count 14 = .ok (.ireturn, 1) := by decide +kernel
theorem dL_count_15 : decode cL_count 15 = .ok (.iconst 0, 1) := by decide +kernel
theorem dL_count_16 : decode cL_count 16 = .ok (.ireturn, 1) := by decide +kernel
theorem dL_law_0 : decode cL_law 0 = .ok (.new 8, 3) := by decide +kernel
theorem dL_law_3 : decode cL_law 3 = .ok (.dup, 1) := by decide +kernel
theorem dL_law_4 : decode cL_law 4 = .ok (.aload_n 0, 1) := by decide +kernel
theorem dL_law_5 : decode cL_law 5 = .ok (.iconst 0, 1) := by decide +kernel
theorem dL_law_6 : decode cL_law 6 = .ok (.invokestatic 63, 3) := by decide +kernel
theorem dL_law_9 : decode cL_law 9 = .ok (.aload_n 0, 1) := by decide +kernel
theorem dL_law_10 : decode cL_law 10 = .ok (.iconst 1, 1) := by decide +kernel
theorem dL_law_11 : decode cL_law 11 = .ok (.invokestatic 63, 3) := by decide +kernel
theorem dL_law_14 : decode cL_law 14 = .ok (.invokespecial 69, 3) := by decide +kernel
theorem dL_law_17 : decode cL_law 17 = .ok (.astore_n 1, 1) := by decide +kernel
theorem dL_law_18 : decode cL_law 18 = .ok (.new 72, 3) := by decide +kernel
theorem dL_law_21 : decode cL_law 21 = .ok (.dup, 1) := by decide +kernel
theorem dL_law_22 : decode cL_law 22 = .ok (.aload_n 0, 1) := by decide +kernel
theorem dL_law_23 : decode cL_law 23 = .ok (.iconst 0, 1) := by decide +kernel
theorem dL_law_24 : decode cL_law 24 = .ok (.invokestatic 63, 3) := by decide +kernel
theorem dL_law_27 : decode cL_law 27 = .ok (.aload_n 0, 1) := by decide +kernel
theorem dL_law_28 : decode cL_law 28 = .ok (.iconst 1, 1) := by decide +kernel
theorem dL_law_29 : decode cL_law 29 = .ok (.invokestatic 63, 3) := by decide +kernel
theorem dL_law_32 : decode cL_law 32 = .ok (.invokespecial 74, 3) := by decide +kernel
theorem dL_law_35 : decode cL_law 35 = .ok (.astore_n 2, 1) := by decide +kernel
theorem dL_law_36 : decode cL_law 36 = .ok (.iconst 1, 1) := by decide +kernel
theorem dL_law_37 : decode cL_law 37 = .ok (.newarray .long, 2) := by decide +kernel
theorem dL_law_39 : decode cL_law 39 = .ok (.astore_n 3, 1) := by decide +kernel
theorem dL_law_40 : decode cL_law 40 = .ok (.iconst 1, 1) := by decide +kernel
theorem dL_law_41 : decode cL_law 41 = .ok (.newarray .double, 2) := by decide +kernel
theorem dL_law_43 : decode cL_law 43 = .ok (.astore 4, 2) := by decide +kernel
theorem dL_law_45 : decode cL_law 45 = .ok (.iconst 2, 1) := by decide +kernel
theorem dL_law_46 : decode cL_law 46 = .ok (.istore 5, 2) := by decide +kernel
theorem dL_law_48 : decode cL_law 48 = .ok (.iload 5, 2) := by decide +kernel
theorem dL_law_50 : decode cL_law 50 = .ok (.aload_n 0, 1) := by decide +kernel
theorem dL_law_51 : decode cL_law 51 = .ok (.arraylength, 1) := by decide +kernel
theorem dL_law_52 : decode cL_law 52 = .ok (.iconst 5, 1) := by decide +kernel
theorem dL_law_53 : decode cL_law 53 = .ok (.isub, 1) := by decide +kernel
theorem dL_law_54 : decode cL_law 54 = .ok (.if_icmp .gt 1129, 3) := by decide +kernel
theorem dL_law_57 : decode cL_law 57 = .ok (.aload_n 0, 1) := by decide +kernel
theorem dL_law_58 : decode cL_law 58 = .ok (.iload 5, 2) := by decide +kernel
theorem dL_law_60 : decode cL_law 60 = .ok (.iaload, 1) := by decide +kernel
theorem dL_law_61 : decode cL_law 61 = .ok (.bipush 31, 2) := by decide +kernel
theorem dL_law_63 : decode cL_law 63 = .ok (.iand, 1) := by decide +kernel
theorem dL_law_64 : decode cL_law 64 = .ok (.tableswitch 1113 0 16 #[84, 176, 256, 346, 392, 462, 487, 500, 556, 614, 670, 759, 836, 925, 966, 1043, 1057], 84) := by decide +kernel
theorem dL_law_148 : decode cL_law 148 = .ok (.aload_n 1, 1) := by decide +kernel
theorem dL_law_149 : decode cL_law 149 = .ok (.aload_n 0, 1) := by decide +kernel
theorem dL_law_150 : decode cL_law 150 = .ok (.iload 5, 2) := by decide +kernel
theorem dL_law_152 : decode cL_law 152 = .ok (.iconst 1, 1) := by decide +kernel
theorem dL_law_153 : decode cL_law 153 = .ok (.iadd, 1) := by decide +kernel
theorem dL_law_154 : decode cL_law 154 = .ok (.iaload, 1) := by decide +kernel
theorem dL_law_155 : decode cL_law 155 = .ok (.aload_n 0, 1) := by decide +kernel
theorem dL_law_156 : decode cL_law 156 = .ok (.iload 5, 2) := by decide +kernel
theorem dL_law_158 : decode cL_law 158 = .ok (.iconst 2, 1) := by decide +kernel
theorem dL_law_159 : decode cL_law 159 = .ok (.iadd, 1) := by decide +kernel
theorem dL_law_160 : decode cL_law 160 = .ok (.iaload, 1) := by decide +kernel
theorem dL_law_161 : decode cL_law 161 = .ok (.i2d, 1) := by decide +kernel
theorem dL_law_162 : decode cL_law 162 = .ok (.ldc2_w 75, 3) := by decide +kernel
theorem dL_law_165 : decode cL_law 165 = .ok (.dmul, 1) := by decide +kernel
theorem dL_law_166 : decode cL_law 166 = .ok (.aload_n 0, 1) := by decide +kernel
theorem dL_law_167 : decode cL_law 167 = .ok (.iload 5, 2) := by decide +kernel
theorem dL_law_169 : decode cL_law 169 = .ok (.iconst 3, 1) := by decide +kernel
theorem dL_law_170 : decode cL_law 170 = .ok (.iadd, 1) := by decide +kernel
theorem dL_law_171 : decode cL_law 171 = .ok (.iaload, 1) := by decide +kernel
theorem dL_law_172 : decode cL_law 172 = .ok (.i2d, 1) := by decide +kernel
theorem dL_law_173 : decode cL_law 173 = .ok (.ldc2_w 75, 3) := by decide +kernel
theorem dL_law_176 : decode cL_law 176 = .ok (.dmul, 1) := by decide +kernel
theorem dL_law_177 : decode cL_law 177 = .ok (.aload_n 0, 1) := by decide +kernel
theorem dL_law_178 : decode cL_law 178 = .ok (.iload 5, 2) := by decide +kernel
theorem dL_law_180 : decode cL_law 180 = .ok (.iconst 4, 1) := by decide +kernel
theorem dL_law_181 : decode cL_law 181 = .ok (.iadd, 1) := by decide +kernel
theorem dL_law_182 : decode cL_law 182 = .ok (.iaload, 1) := by decide +kernel
theorem dL_law_183 : decode cL_law 183 = .ok (.invokestatic 77, 3) := by decide +kernel
theorem dL_law_186 : decode cL_law 186 = .ok (.istore 6, 2) := by decide +kernel
theorem dL_law_188 : decode cL_law 188 = .ok (.aload_n 2, 1) := by decide +kernel
theorem dL_law_189 : decode cL_law 189 = .ok (.aload_n 0, 1) := by decide +kernel
theorem dL_law_190 : decode cL_law 190 = .ok (.iload 5, 2) := by decide +kernel
theorem dL_law_192 : decode cL_law 192 = .ok (.iconst 1, 1) := by decide +kernel
theorem dL_law_193 : decode cL_law 193 = .ok (.iadd, 1) := by decide +kernel
theorem dL_law_194 : decode cL_law 194 = .ok (.iaload, 1) := by decide +kernel
theorem dL_law_195 : decode cL_law 195 = .ok (.aload_n 0, 1) := by decide +kernel
theorem dL_law_196 : decode cL_law 196 = .ok (.iload 5, 2) := by decide +kernel
theorem dL_law_198 : decode cL_law 198 = .ok (.iconst 2, 1) := by decide +kernel
theorem dL_law_199 : decode cL_law 199 = .ok (.iadd, 1) := by decide +kernel
theorem dL_law_200 : decode cL_law 200 = .ok (.iaload, 1) := by decide +kernel
theorem dL_law_201 : decode cL_law 201 = .ok (.i2d, 1) := by decide +kernel
theorem dL_law_202 : decode cL_law 202 = .ok (.ldc2_w 75, 3) := by decide +kernel
theorem dL_law_205 : decode cL_law 205 = .ok (.dmul, 1) := by decide +kernel
theorem dL_law_206 : decode cL_law 206 = .ok (.aload_n 0, 1) := by decide +kernel
theorem dL_law_207 : decode cL_law 207 = .ok (.iload 5, 2) := by decide +kernel
theorem dL_law_209 : decode cL_law 209 = .ok (.iconst 3, 1) := by decide +kernel
theorem dL_law_210 : decode cL_law 210 = .ok (.iadd, 1) := by decide +kernel
theorem dL_law_211 : decode cL_law 211 = .ok (.iaload, 1) := by decide +kernel
theorem dL_law_212 : decode cL_law 212 = .ok (.i2d, 1) := by decide +kernel
theorem dL_law_213 : decode cL_law 213 = .ok (.ldc2_w 75, 3) := by decide +kernel
theorem dL_law_216 : decode cL_law 216 = .ok (.dmul, 1) := by decide +kernel
theorem dL_law_217 : decode cL_law 217 = .ok (.aload_n 0, 1) := by decide +kernel
theorem dL_law_218 : decode cL_law 218 = .ok (.iload 5, 2) := by decide +kernel
theorem dL_law_220 : decode cL_law 220 = .ok (.iconst 4, 1) := by decide +kernel
theorem dL_law_221 : decode cL_law 221 = .ok (.iadd, 1) := by decide +kernel
theorem dL_law_222 : decode cL_law 222 = .ok (.iaload, 1) := by decide +kernel
theorem dL_law_223 : decode cL_law 223 = .ok (.invokevirtual 80, 3) := by decide +kernel
theorem dL_law_226 : decode cL_law 226 = .ok (.aload_n 2, 1) := by decide +kernel
theorem dL_law_227 : decode cL_law 227 = .ok (.invokevirtual 81, 3) := by decide +kernel
theorem dL_law_230 : decode cL_law 230 = .ok (.iload 6, 2) := by decide +kernel
theorem dL_law_232 : decode cL_law 232 = .ok (.if_icmp .eq 5, 3) := by decide +kernel
theorem dL_law_235 : decode cL_law 235 = .ok (.iconst 0, 1) := by decide +kernel
theorem dL_law_236 : decode cL_law 236 = .ok (.ireturn, 1) := by decide +kernel
theorem dL_law_237 : decode cL_law 237 = .ok (.goto 940, 3) := by decide +kernel
theorem dL_law_240 : decode cL_law 240 = .ok (.aload_n 1, 1) := by decide +kernel
theorem dL_law_241 : decode cL_law 241 = .ok (.aload_n 0, 1) := by decide +kernel
theorem dL_law_242 : decode cL_law 242 = .ok (.iload 5, 2) := by decide +kernel
theorem dL_law_244 : decode cL_law 244 = .ok (.iconst 1, 1) := by decide +kernel
theorem dL_law_245 : decode cL_law 245 = .ok (.iadd, 1) := by decide +kernel
theorem dL_law_246 : decode cL_law 246 = .ok (.iaload, 1) := by decide +kernel
theorem dL_law_247 : decode cL_law 247 = .ok (.aload_n 0, 1) := by decide +kernel
theorem dL_law_248 : decode cL_law 248 = .ok (.iload 5, 2) := by decide +kernel
theorem dL_law_250 : decode cL_law 250 = .ok (.iconst 2, 1) := by decide +kernel
theorem dL_law_251 : decode cL_law 251 = .ok (.iadd, 1) := by decide +kernel
theorem dL_law_252 : decode cL_law 252 = .ok (.iaload, 1) := by decide +kernel
theorem dL_law_253 : decode cL_law 253 = .ok (.i2d, 1) := by decide +kernel
theorem dL_law_254 : decode cL_law 254 = .ok (.ldc2_w 75, 3) := by decide +kernel
theorem dL_law_257 : decode cL_law 257 = .ok (.dmul, 1) := by decide +kernel
theorem dL_law_258 : decode cL_law 258 = .ok (.aload_n 0, 1) := by decide +kernel
theorem dL_law_259 : decode cL_law 259 = .ok (.iload 5, 2) := by decide +kernel
theorem dL_law_261 : decode cL_law 261 = .ok (.iconst 3, 1) := by decide +kernel
theorem dL_law_262 : decode cL_law 262 = .ok (.iadd, 1) := by decide +kernel
theorem dL_law_263 : decode cL_law 263 = .ok (.iaload, 1) := by decide +kernel
theorem dL_law_264 : decode cL_law 264 = .ok (.i2d, 1) := by decide +kernel
theorem dL_law_265 : decode cL_law 265 = .ok (.ldc2_w 75, 3) := by decide +kernel
theorem dL_law_268 : decode cL_law 268 = .ok (.dmul, 1) := by decide +kernel
theorem dL_law_269 : decode cL_law 269 = .ok (.invokestatic 85, 3) := by decide +kernel
theorem dL_law_272 : decode cL_law 272 = .ok (.istore 6, 2) := by decide +kernel
theorem dL_law_274 : decode cL_law 274 = .ok (.aload_n 2, 1) := by decide +kernel
theorem dL_law_275 : decode cL_law 275 = .ok (.aload_n 0, 1) := by decide +kernel
theorem dL_law_276 : decode cL_law 276 = .ok (.iload 5, 2) := by decide +kernel
theorem dL_law_278 : decode cL_law 278 = .ok (.iconst 1, 1) := by decide +kernel
theorem dL_law_279 : decode cL_law 279 = .ok (.iadd, 1) := by decide +kernel
theorem dL_law_280 : decode cL_law 280 = .ok (.iaload, 1) := by decide +kernel
theorem dL_law_281 : decode cL_law 281 = .ok (.aload_n 0, 1) := by decide +kernel
theorem dL_law_282 : decode cL_law 282 = .ok (.iload 5, 2) := by decide +kernel
theorem dL_law_284 : decode cL_law 284 = .ok (.iconst 2, 1) := by decide +kernel
theorem dL_law_285 : decode cL_law 285 = .ok (.iadd, 1) := by decide +kernel
theorem dL_law_286 : decode cL_law 286 = .ok (.iaload, 1) := by decide +kernel
theorem dL_law_287 : decode cL_law 287 = .ok (.i2d, 1) := by decide +kernel
theorem dL_law_288 : decode cL_law 288 = .ok (.ldc2_w 75, 3) := by decide +kernel
theorem dL_law_291 : decode cL_law 291 = .ok (.dmul, 1) := by decide +kernel
theorem dL_law_292 : decode cL_law 292 = .ok (.aload_n 0, 1) := by decide +kernel
theorem dL_law_293 : decode cL_law 293 = .ok (.iload 5, 2) := by decide +kernel
theorem dL_law_295 : decode cL_law 295 = .ok (.iconst 3, 1) := by decide +kernel
theorem dL_law_296 : decode cL_law 296 = .ok (.iadd, 1) := by decide +kernel
theorem dL_law_297 : decode cL_law 297 = .ok (.iaload, 1) := by decide +kernel
theorem dL_law_298 : decode cL_law 298 = .ok (.i2d, 1) := by decide +kernel
theorem dL_law_299 : decode cL_law 299 = .ok (.ldc2_w 75, 3) := by decide +kernel
theorem dL_law_302 : decode cL_law 302 = .ok (.dmul, 1) := by decide +kernel
theorem dL_law_303 : decode cL_law 303 = .ok (.invokevirtual 88, 3) := by decide +kernel
theorem dL_law_306 : decode cL_law 306 = .ok (.aload_n 2, 1) := by decide +kernel
theorem dL_law_307 : decode cL_law 307 = .ok (.invokevirtual 81, 3) := by decide +kernel
theorem dL_law_310 : decode cL_law 310 = .ok (.iload 6, 2) := by decide +kernel
theorem dL_law_312 : decode cL_law 312 = .ok (.if_icmp .eq 5, 3) := by decide +kernel
theorem dL_law_315 : decode cL_law 315 = .ok (.iconst 0, 1) := by decide +kernel
theorem dL_law_316 : decode cL_law 316 = .ok (.ireturn, 1) := by decide +kernel
theorem dL_law_317 : decode cL_law 317 = .ok (.goto 860, 3) := by decide +kernel
theorem dL_law_320 : decode cL_law 320 = .ok (.aload_n 1, 1) := by decide +kernel
theorem dL_law_321 : decode cL_law 321 = .ok (.aload_n 0, 1) := by decide +kernel
theorem dL_law_322 : decode cL_law 322 = .ok (.iload 5, 2) := by decide +kernel
theorem dL_law_324 : decode cL_law 324 = .ok (.iconst 1, 1) := by decide +kernel
theorem dL_law_325 : decode cL_law 325 = .ok (.iadd, 1) := by decide +kernel
theorem dL_law_326 : decode cL_law 326 = .ok (.iaload, 1) := by decide +kernel
theorem dL_law_327 : decode cL_law 327 = .ok (.i2d, 1) := by decide +kernel
theorem dL_law_328 : decode cL_law 328 = .ok (.ldc2_w 75, 3) := by decide +kernel
theorem dL_law_331 : decode cL_law 331 = .ok (.dmul, 1) := by decide +kernel
theorem dL_law_332 : decode cL_law 332 = .ok (.aload_n 0, 1) := by decide +kernel
theorem dL_law_333 : decode cL_law 333 = .ok (.iload 5, 2) := by decide +kernel
theorem dL_law_335 : decode cL_law 335 = .ok (.iconst 2, 1) := by decide +kernel
theorem dL_law_336 : decode cL_law 336 = .ok (.iadd, 1) := by decide +kernel
theorem dL_law_337 : decode cL_law 337 = .ok (.iaload, 1) := by decide +kernel
theorem dL_law_338 : decode cL_law 338 = .ok (.i2d, 1) := by decide +kernel
theorem dL_law_339 : decode cL_law 339 = .ok (.ldc2_w 75, 3) := by decide +kernel
theorem dL_law_342 : decode cL_law 342 = .ok (.dmul, 1) := by decide +kernel
theorem dL_law_343 : decode cL_law 343 = .ok (.aload_n 0, 1) := by decide +kernel
theorem dL_law_344 : decode cL_law 344 = .ok (.iload 5, 2) := by decide +kernel
theorem dL_law_346 : decode cL_law 346 = .ok (.iconst 3, 1) := by decide +kernel
theorem dL_law_347 : decode cL_law 347 = .ok (.iadd, 1) := by decide +kernel
theorem dL_law_348 : decode cL_law 348 = .ok (.iaload, 1) := by decide +kernel
theorem dL_law_349 : decode cL_law 349 = .ok (.i2d, 1) := by decide +kernel
theorem dL_law_350 : decode cL_law 350 = .ok (.ldc2_w 75, 3) := by decide +kernel
theorem dL_law_353 : decode cL_law 353 = .ok (.dmul, 1) := by decide +kernel
theorem dL_law_354 : decode cL_law 354 = .ok (.invokestatic 89, 3) := by decide +kernel
theorem dL_law_357 : decode cL_law 357 = .ok (.istore 6, 2) := by decide +kernel
theorem dL_law_359 : decode cL_law 359 = .ok (.aload_n 2, 1) := by decide +kernel
theorem dL_law_360 : decode cL_law 360 = .ok (.aload_n 0, 1) := by decide +kernel
theorem dL_law_361 : decode cL_law 361 = .ok (.iload 5, 2) := by decide +kernel
theorem dL_law_363 : decode cL_law 363 = .ok (.iconst 1, 1) := by decide +kernel
theorem dL_law_364 : decode cL_law 364 = .ok (.iadd, 1) := by decide +kernel
theorem dL_law_365 : decode cL_law 365 = .ok (.iaload, 1) := by decide +kernel
theorem dL_law_366 : decode cL_law 366 = .ok (.i2d, 1) := by decide +kernel
theorem dL_law_367 : decode cL_law 367 = .ok (.ldc2_w 75, 3) := by decide +kernel
theorem dL_law_370 : decode cL_law 370 = .ok (.dmul, 1) := by decide +kernel
theorem dL_law_371 : decode cL_law 371 = .ok (.aload_n 0, 1) := by decide +kernel
theorem dL_law_372 : decode cL_law 372 = .ok (.iload 5, 2) := by decide +kernel
theorem dL_law_374 : decode cL_law 374 = .ok (.iconst 2, 1) := by decide +kernel
theorem dL_law_375 : decode cL_law 375 = .ok (.iadd, 1) := by decide +kernel
theorem dL_law_376 : decode cL_law 376 = .ok (.iaload, 1) := by decide +kernel
theorem dL_law_377 : decode cL_law 377 = .ok (.i2d, 1) := by decide +kernel
theorem dL_law_378 : decode cL_law 378 = .ok (.ldc2_w 75, 3) := by decide +kernel
theorem dL_law_381 : decode cL_law 381 = .ok (.dmul, 1) := by decide +kernel
theorem dL_law_382 : decode cL_law 382 = .ok (.aload_n 0, 1) := by decide +kernel
theorem dL_law_383 : decode cL_law 383 = .ok (.iload 5, 2) := by decide +kernel
theorem dL_law_385 : decode cL_law 385 = .ok (.iconst 3, 1) := by decide +kernel
theorem dL_law_386 : decode cL_law 386 = .ok (.iadd, 1) := by decide +kernel
theorem dL_law_387 : decode cL_law 387 = .ok (.iaload, 1) := by decide +kernel
theorem dL_law_388 : decode cL_law 388 = .ok (.i2d, 1) := by decide +kernel
theorem dL_law_389 : decode cL_law 389 = .ok (.ldc2_w 75, 3) := by decide +kernel
theorem dL_law_392 : decode cL_law 392 = .ok (.dmul, 1) := by decide +kernel
theorem dL_law_393 : decode cL_law 393 = .ok (.invokevirtual 92, 3) := by decide +kernel
theorem dL_law_396 : decode cL_law 396 = .ok (.aload_n 2, 1) := by decide +kernel
theorem dL_law_397 : decode cL_law 397 = .ok (.invokevirtual 81, 3) := by decide +kernel
theorem dL_law_400 : decode cL_law 400 = .ok (.iload 6, 2) := by decide +kernel
theorem dL_law_402 : decode cL_law 402 = .ok (.if_icmp .eq 5, 3) := by decide +kernel
theorem dL_law_405 : decode cL_law 405 = .ok (.iconst 0, 1) := by decide +kernel
theorem dL_law_406 : decode cL_law 406 = .ok (.ireturn, 1) := by decide +kernel
theorem dL_law_407 : decode cL_law 407 = .ok (.goto 770, 3) := by decide +kernel
theorem dL_law_410 : decode cL_law 410 = .ok (.aload_n 1, 1) := by decide +kernel
theorem dL_law_411 : decode cL_law 411 = .ok (.aload_n 0, 1) := by decide +kernel
theorem dL_law_412 : decode cL_law 412 = .ok (.iload 5, 2) := by decide +kernel
theorem dL_law_414 : decode cL_law 414 = .ok (.iconst 1, 1) := by decide +kernel
theorem dL_law_415 : decode cL_law 415 = .ok (.iadd, 1) := by decide +kernel
theorem dL_law_416 : decode cL_law 416 = .ok (.iaload, 1) := by decide +kernel
theorem dL_law_417 : decode cL_law 417 = .ok (.i2d, 1) := by decide +kernel
theorem dL_law_418 : decode cL_law 418 = .ok (.ldc2_w 75, 3) := by decide +kernel
theorem dL_law_421 : decode cL_law 421 = .ok (.dmul, 1) := by decide +kernel
theorem dL_law_422 : decode cL_law 422 = .ok (.invokestatic 93, 3) := by decide +kernel
theorem dL_law_425 : decode cL_law 425 = .ok (.istore 6, 2) := by decide +kernel
theorem dL_law_427 : decode cL_law 427 = .ok (.aload_n 2, 1) := by decide +kernel
theorem dL_law_428 : decode cL_law 428 = .ok (.aload_n 0, 1) := by decide +kernel
theorem dL_law_429 : decode cL_law 429 = .ok (.iload 5, 2) := by decide +kernel
theorem dL_law_431 : decode cL_law 431 = .ok (.iconst 1, 1) := by decide +kernel
theorem dL_law_432 : decode cL_law 432 = .ok (.iadd, 1) := by decide +kernel
theorem dL_law_433 : decode cL_law 433 = .ok (.iaload, 1) := by decide +kernel
theorem dL_law_434 : decode cL_law 434 = .ok (.i2d, 1) := by decide +kernel
theorem dL_law_435 : decode cL_law 435 = .ok (.ldc2_w 75, 3) := by decide +kernel
theorem dL_law_438 : decode cL_law 438 = .ok (.dmul, 1) := by decide +kernel
theorem dL_law_439 : decode cL_law 439 = .ok (.invokevirtual 96, 3) := by decide +kernel
theorem dL_law_442 : decode cL_law 442 = .ok (.aload_n 2, 1) := by decide +kernel
theorem dL_law_443 : decode cL_law 443 = .ok (.invokevirtual 81, 3) := by decide +kernel
theorem dL_law_446 : decode cL_law 446 = .ok (.iload 6, 2) := by decide +kernel
theorem dL_law_448 : decode cL_law 448 = .ok (.if_icmp .eq 5, 3) := by decide +kernel
theorem dL_law_451 : decode cL_law 451 = .ok (.iconst 0, 1) := by decide +kernel
theorem dL_law_452 : decode cL_law 452 = .ok (.ireturn, 1) := by decide +kernel
theorem dL_law_453 : decode cL_law 453 = .ok (.goto 724, 3) := by decide +kernel
theorem dL_law_456 : decode cL_law 456 = .ok (.aload_n 1, 1) := by decide +kernel
theorem dL_law_457 : decode cL_law 457 = .ok (.aload_n 0, 1) := by decide +kernel
theorem dL_law_458 : decode cL_law 458 = .ok (.iload 5, 2) := by decide +kernel
theorem dL_law_460 : decode cL_law 460 = .ok (.iconst 1, 1) := by decide +kernel
theorem dL_law_461 : decode cL_law 461 = .ok (.iadd, 1) := by decide +kernel
theorem dL_law_462 : decode cL_law 462 = .ok (.iaload, 1) := by decide +kernel
theorem dL_law_463 : decode cL_law 463 = .ok (.aload_n 0, 1) := by decide +kernel
theorem dL_law_464 : decode cL_law 464 = .ok (.iload 5, 2) := by decide +kernel
theorem dL_law_466 : decode cL_law 466 = .ok (.iconst 2, 1) := by decide +kernel
theorem dL_law_467 : decode cL_law 467 = .ok (.iadd, 1) := by decide +kernel
theorem dL_law_468 : decode cL_law 468 = .ok (.iaload, 1) := by decide +kernel
theorem dL_law_469 : decode cL_law 469 = .ok (.aload_n 0, 1) := by decide +kernel
theorem dL_law_470 : decode cL_law 470 = .ok (.iload 5, 2) := by decide +kernel
theorem dL_law_472 : decode cL_law 472 = .ok (.iconst 3, 1) := by decide +kernel
theorem dL_law_473 : decode cL_law 473 = .ok (.iadd, 1) := by decide +kernel
theorem dL_law_474 : decode cL_law 474 = .ok (.iaload, 1) := by decide +kernel
theorem dL_law_475 : decode cL_law 475 = .ok (.i2d, 1) := by decide +kernel
theorem dL_law_476 : decode cL_law 476 = .ok (.ldc2_w 75, 3) := by decide +kernel
theorem dL_law_479 : decode cL_law 479 = .ok (.dmul, 1) := by decide +kernel
theorem dL_law_480 : decode cL_law 480 = .ok (.invokestatic 97, 3) := by decide +kernel
theorem dL_law_483 : decode cL_law 483 = .ok (.istore 6, 2) := by decide +kernel
theorem dL_law_485 : decode cL_law 485 = .ok (.aload_n 2, 1) := by decide +kernel
theorem dL_law_486 : decode cL_law 486 = .ok (.aload_n 0, 1) := by decide +kernel
theorem dL_law_487 : decode cL_law 487 = .ok (.iload 5, 2) := by decide +kernel
theorem dL_law_489 : decode cL_law 489 = .ok (.iconst 1, 1) := by decide +kernel
theorem dL_law_490 : decode cL_law 490 = .ok (.iadd, 1) := by decide +kernel
theorem dL_law_491 : decode cL_law 491 = .ok (.iaload, 1) := by decide +kernel
theorem dL_law_492 : decode cL_law 492 = .ok (.aload_n 0, 1) := by decide +kernel
theorem dL_law_493 : decode cL_law 493 = .ok (.iload 5, 2) := by decide +kernel
theorem dL_law_495 : decode cL_law 495 = .ok (.iconst 2, 1) := by decide +kernel
theorem dL_law_496 : decode cL_law 496 = .ok (.iadd, 1) := by decide +kernel
theorem dL_law_497 : decode cL_law 497 = .ok (.iaload, 1) := by decide +kernel
theorem dL_law_498 : decode cL_law 498 = .ok (.aload_n 0, 1) := by decide +kernel
theorem dL_law_499 : decode cL_law 499 = .ok (.iload 5, 2) := by decide +kernel
theorem dL_law_501 : decode cL_law 501 = .ok (.iconst 3, 1) := by decide +kernel
theorem dL_law_502 : decode cL_law 502 = .ok (.iadd, 1) := by decide +kernel
theorem dL_law_503 : decode cL_law 503 = .ok (.iaload, 1) := by decide +kernel
theorem dL_law_504 : decode cL_law 504 = .ok (.i2d, 1) := by decide +kernel
theorem dL_law_505 : decode cL_law 505 = .ok (.ldc2_w 75, 3) := by decide +kernel
theorem dL_law_508 : decode cL_law 508 = .ok (.dmul, 1) := by decide +kernel
theorem dL_law_509 : decode cL_law 509 = .ok (.invokevirtual 100, 3) := by decide +kernel
theorem dL_law_512 : decode cL_law 512 = .ok (.aload_n 2, 1) := by decide +kernel
theorem dL_law_513 : decode cL_law 513 = .ok (.invokevirtual 81, 3) := by decide +kernel
theorem dL_law_516 : decode cL_law 516 = .ok (.iload 6, 2) := by decide +kernel
theorem dL_law_518 : decode cL_law 518 = .ok (.if_icmp .eq 5, 3) := by decide +kernel
theorem dL_law_521 : decode cL_law 521 = .ok (.iconst 0, 1) := by decide +kernel
theorem dL_law_522 : decode cL_law 522 = .ok (.ireturn, 1) := by decide +kernel
theorem dL_law_523 : decode cL_law 523 = .ok (.goto 654, 3) := by decide +kernel
theorem dL_law_526 : decode cL_law 526 = .ok (.aload_n 1, 1) := by decide +kernel
theorem dL_law_527 : decode cL_law 527 = .ok (.aload_n 0, 1) := by decide +kernel
theorem dL_law_528 : decode cL_law 528 = .ok (.iload 5, 2) := by decide +kernel
theorem dL_law_530 : decode cL_law 530 = .ok (.iconst 1, 1) := by decide +kernel
theorem dL_law_531 : decode cL_law 531 = .ok (.iadd, 1) := by decide +kernel
theorem dL_law_532 : decode cL_law 532 = .ok (.iaload, 1) := by decide +kernel
theorem dL_law_533 : decode cL_law 533 = .ok (.invokevirtual 101, 3) := by decide +kernel
theorem dL_law_536 : decode cL_law 536 = .ok (.aload_n 2, 1) := by decide +kernel
theorem dL_law_537 : decode cL_law 537 = .ok (.aload_n 0, 1) := by decide +kernel
theorem dL_law_538 : decode cL_law 538 = .ok (.iload 5, 2) := by decide +kernel
theorem dL_law_540 : decode cL_law 540 = .ok (.iconst 1, 1) := by decide +kernel
theorem dL_law_541 : decode cL_law 541 = .ok (.iadd, 1) := by decide +kernel
theorem dL_law_542 : decode cL_law 542 = .ok (.iaload, 1) := by decide +kernel
theorem dL_law_543 : decode cL_law 543 = .ok (.invokevirtual 105, 3) := by decide +kernel
theorem dL_law_546 : decode cL_law 546 = .ok (.if_icmp .eq 631, 3) := by decide +kernel
theorem dL_law_549 : decode cL_law 549 = .ok (.iconst 0, 1) := by decide +kernel
theorem dL_law_550 : decode cL_law 550 = .ok (.ireturn, 1) := by decide +kernel
theorem dL_law_551 : decode cL_law 551 = .ok (.aload_n 1, 1) := by decide +kernel
theorem dL_law_552 : decode cL_law 552 = .ok (.invokevirtual 106, 3) := by decide +kernel
theorem dL_law_555 : decode cL_law 555 = .ok (.aload_n 2, 1) := by decide +kernel
theorem dL_law_556 : decode cL_law 556 = .ok (.invokevirtual 109, 3) := by decide +kernel
theorem dL_law_559 : decode cL_law 559 = .ok (.if_icmp .eq 618, 3) := by decide +kernel
theorem dL_law_562 : decode cL_law 562 = .ok (.iconst 0, 1) := by decide +kernel
theorem dL_law_563 : decode cL_law 563 = .ok (.ireturn, 1) := by decide +kernel
theorem dL_law_564 : decode cL_law 564 = .ok (.aload_n 1, 1) := by decide +kernel
theorem dL_law_565 : decode cL_law 565 = .ok (.aload_n 0, 1) := by decide +kernel
theorem dL_law_566 : decode cL_law 566 = .ok (.iload 5, 2) := by decide +kernel
theorem dL_law_568 : decode cL_law 568 = .ok (.iconst 1, 1) := by decide +kernel
theorem dL_law_569 : decode cL_law 569 = .ok (.iadd, 1) := by decide +kernel
theorem dL_law_570 : decode cL_law 570 = .ok (.iaload, 1) := by decide +kernel
theorem dL_law_571 : decode cL_law 571 = .ok (.aload_n 3, 1) := by decide +kernel
theorem dL_law_572 : decode cL_law 572 = .ok (.invokestatic 110, 3) := by decide +kernel
theorem dL_law_575 : decode cL_law 575 = .ok (.istore 6, 2) := by decide +kernel
theorem dL_law_577 : decode cL_law 577 = .ok (.aload_n 2, 1) := by decide +kernel
theorem dL_law_578 : decode cL_law 578 = .ok (.aload_n 0, 1) := by decide +kernel
theorem dL_law_579 : decode cL_law 579 = .ok (.iload 5, 2) := by decide +kernel
theorem dL_law_581 : decode cL_law 581 = .ok (.iconst 1, 1) := by decide +kernel
theorem dL_law_582 : decode cL_law 582 = .ok (.iadd, 1) := by decide +kernel
theorem dL_law_583 : decode cL_law 583 = .ok (.iaload, 1) := by decide +kernel
theorem dL_law_584 : decode cL_law 584 = .ok (.invokevirtual 113, 3) := by decide +kernel
theorem dL_law_587 : decode cL_law 587 = .ok (.istore 7, 2) := by decide +kernel
theorem dL_law_589 : decode cL_law 589 = .ok (.aload_n 2, 1) := by decide +kernel
theorem dL_law_590 : decode cL_law 590 = .ok (.invokevirtual 81, 3) := by decide +kernel
theorem dL_law_593 : decode cL_law 593 = .ok (.iload 6, 2) := by decide +kernel
theorem dL_law_595 : decode cL_law 595 = .ok (.if_icmp .eq 5, 3) := by decide +kernel
theorem dL_law_598 : decode cL_law 598 = .ok (.iconst 0, 1) := by decide +kernel
theorem dL_law_599 : decode cL_law 599 = .ok (.ireturn, 1) := by decide +kernel
theorem dL_law_600 : decode cL_law 600 = .ok (.iload 6, 2) := by decide +kernel
theorem dL_law_602 : decode cL_law 602 = .ok (.ifCond .ne 15, 3) := by decide +kernel
theorem dL_law_605 : decode cL_law 605 = .ok (.aload_n 3, 1) := by decide +kernel
theorem dL_law_606 : decode cL_law 606 = .ok (.iconst 0, 1) := by decide +kernel
theorem dL_law_607 : decode cL_law 607 = .ok (.laload, 1) := by decide +kernel
theorem dL_law_608 : decode cL_law 608 = .ok (.iload 7, 2) := by decide +kernel
theorem dL_law_610 : decode cL_law 610 = .ok (.i2l, 1) := by decide +kernel
theorem dL_law_611 : decode cL_law 611 = .ok (.lcmp, 1) := by decide +kernel
theorem dL_law_612 : decode cL_law 612 = .ok (.ifCond .eq 5, 3) := by decide +kernel
theorem dL_law_615 : decode cL_law 615 = .ok (.iconst 0, 1) := by decide +kernel
theorem dL_law_616 : decode cL_law 616 = .ok (.ireturn, 1) := by decide +kernel
theorem dL_law_617 : decode cL_law 617 = .ok (.goto 560, 3) := by decide +kernel
theorem dL_law_620 : decode cL_law 620 = .ok (.aload_n 1, 1) := by decide +kernel
theorem dL_law_621 : decode cL_law 621 = .ok (.aload_n 0, 1) := by decide +kernel
theorem dL_law_622 : decode cL_law 622 = .ok (.iload 5, 2) := by decide +kernel
theorem dL_law_624 : decode cL_law 624 = .ok (.iconst 1, 1) := by decide +kernel
theorem dL_law_625 : decode cL_law 625 = .ok (.iadd, 1) := by decide +kernel
theorem dL_law_626 : decode cL_law 626 = .ok (.iaload, 1) := by decide +kernel
theorem dL_law_627 : decode cL_law 627 = .ok (.aload_n 0, 1) := by decide +kernel
theorem dL_law_628 : decode cL_law 628 = .ok (.iload 5, 2) := by decide +kernel
theorem dL_law_630 : decode cL_law 630 = .ok (.iconst 2, 1) := by decide +kernel
theorem dL_law_631 : decode cL_law 631 = .ok (.iadd, 1) := by decide +kernel
theorem dL_law_632 : decode cL_law 632 = .ok (.iaload, 1) := by decide +kernel
theorem dL_law_633 : decode cL_law 633 = .ok (.i2d, 1) := by decide +kernel
theorem dL_law_634 : decode cL_law 634 = .ok (.ldc2_w 75, 3) := by decide +kernel
theorem dL_law_637 : decode cL_law 637 = .ok (.dmul, 1) := by decide +kernel
theorem dL_law_638 : decode cL_law 638 = .ok (.invokestatic 114, 3) := by decide +kernel
theorem dL_law_641 : decode cL_law 641 = .ok (.istore 6, 2) := by decide +kernel
theorem dL_law_643 : decode cL_law 643 = .ok (.aload_n 2, 1) := by decide +kernel
theorem dL_law_644 : decode cL_law 644 = .ok (.aload_n 0, 1) := by decide +kernel
theorem dL_law_645 : decode cL_law 645 = .ok (.iload 5, 2) := by decide +kernel
theorem dL_law_647 : decode cL_law 647 = .ok (.iconst 1, 1) := by decide +kernel
theorem dL_law_648 : decode cL_law 648 = .ok (.iadd, 1) := by decide +kernel
theorem dL_law_649 : decode cL_law 649 = .ok (.iaload, 1) := by decide +kernel
theorem dL_law_650 : decode cL_law 650 = .ok (.aload_n 0, 1) := by decide +kernel
theorem dL_law_651 : decode cL_law 651 = .ok (.iload 5, 2) := by decide +kernel
theorem dL_law_653 : decode cL_law 653 = .ok (.iconst 2, 1) := by decide +kernel
theorem dL_law_654 : decode cL_law 654 = .ok (.iadd, 1) := by decide +kernel
theorem dL_law_655 : decode cL_law 655 = .ok (.iaload, 1) := by decide +kernel
theorem dL_law_656 : decode cL_law 656 = .ok (.i2d, 1) := by decide +kernel
theorem dL_law_657 : decode cL_law 657 = .ok (.ldc2_w 75, 3) := by decide +kernel
theorem dL_law_660 : decode cL_law 660 = .ok (.dmul, 1) := by decide +kernel
theorem dL_law_661 : decode cL_law 661 = .ok (.invokevirtual 117, 3) := by decide +kernel
theorem dL_law_664 : decode cL_law 664 = .ok (.aload_n 2, 1) := by decide +kernel
theorem dL_law_665 : decode cL_law 665 = .ok (.invokevirtual 81, 3) := by decide +kernel
theorem dL_law_668 : decode cL_law 668 = .ok (.iload 6, 2) := by decide +kernel
theorem dL_law_670 : decode cL_law 670 = .ok (.if_icmp .eq 5, 3) := by decide +kernel
theorem dL_law_673 : decode cL_law 673 = .ok (.iconst 0, 1) := by decide +kernel
theorem dL_law_674 : decode cL_law 674 = .ok (.ireturn, 1) := by decide +kernel
theorem dL_law_675 : decode cL_law 675 = .ok (.goto 502, 3) := by decide +kernel
theorem dL_law_678 : decode cL_law 678 = .ok (.aload_n 1, 1) := by decide +kernel
theorem dL_law_679 : decode cL_law 679 = .ok (.aload_n 0, 1) := by decide +kernel
theorem dL_law_680 : decode cL_law 680 = .ok (.iload 5, 2) := by decide +kernel
theorem dL_law_682 : decode cL_law 682 = .ok (.iconst 1, 1) := by decide +kernel
theorem dL_law_683 : decode cL_law 683 = .ok (.iadd, 1) := by decide +kernel
theorem dL_law_684 : decode cL_law 684 = .ok (.iaload, 1) := by decide +kernel
theorem dL_law_685 : decode cL_law 685 = .ok (.aload_n 3, 1) := by decide +kernel
theorem dL_law_686 : decode cL_law 686 = .ok (.invokestatic 118, 3) := by decide +kernel
theorem dL_law_689 : decode cL_law 689 = .ok (.istore 6, 2) := by decide +kernel
theorem dL_law_691 : decode cL_law 691 = .ok (.aload_n 2, 1) := by decide +kernel
theorem dL_law_692 : decode cL_law 692 = .ok (.aload_n 0, 1) := by decide +kernel
theorem dL_law_693 : decode cL_law 693 = .ok (.iload 5, 2) := by decide +kernel
theorem dL_law_695 : decode cL_law 695 = .ok (.iconst 1, 1) := by decide +kernel
theorem dL_law_696 : decode cL_law 696 = .ok (.iadd, 1) := by decide +kernel
theorem dL_law_697 : decode cL_law 697 = .ok (.iaload, 1) := by decide +kernel
theorem dL_law_698 : decode cL_law 698 = .ok (.invokevirtual 120, 3) := by decide +kernel
theorem dL_law_701 : decode cL_law 701 = .ok (.istore 7, 2) := by decide +kernel
theorem dL_law_703 : decode cL_law 703 = .ok (.aload_n 2, 1) := by decide +kernel
theorem dL_law_704 : decode cL_law 704 = .ok (.invokevirtual 81, 3) := by decide +kernel
theorem dL_law_707 : decode cL_law 707 = .ok (.iload 6, 2) := by decide +kernel
theorem dL_law_709 : decode cL_law 709 = .ok (.if_icmp .eq 5, 3) := by decide +kernel
theorem dL_law_712 : decode cL_law 712 = .ok (.iconst 0, 1) := by decide +kernel
theorem dL_law_713 : decode cL_law 713 = .ok (.ireturn, 1) := by decide +kernel
theorem dL_law_714 : decode cL_law 714 = .ok (.iload 6, 2) := by decide +kernel
theorem dL_law_716 : decode cL_law 716 = .ok (.ifCond .ne 15, 3) := by decide +kernel
theorem dL_law_719 : decode cL_law 719 = .ok (.aload_n 3, 1) := by decide +kernel
theorem dL_law_720 : decode cL_law 720 = .ok (.iconst 0, 1) := by decide +kernel
theorem dL_law_721 : decode cL_law 721 = .ok (.laload, 1) := by decide +kernel
theorem dL_law_722 : decode cL_law 722 = .ok (.iload 7, 2) := by decide +kernel
theorem dL_law_724 : decode cL_law 724 = .ok (.i2l, 1) := by decide +kernel
theorem dL_law_725 : decode cL_law 725 = .ok (.lcmp, 1) := by decide +kernel
theorem dL_law_726 : decode cL_law 726 = .ok (.ifCond .eq 5, 3) := by decide +kernel
theorem dL_law_729 : decode cL_law 729 = .ok (.iconst 0, 1) := by decide +kernel
theorem dL_law_730 : decode cL_law 730 = .ok (.ireturn, 1) := by decide +kernel
theorem dL_law_731 : decode cL_law 731 = .ok (.goto 446, 3) := by decide +kernel
theorem dL_law_734 : decode cL_law 734 = .ok (.aload_n 1, 1) := by decide +kernel
theorem dL_law_735 : decode cL_law 735 = .ok (.aload_n 0, 1) := by decide +kernel
theorem dL_law_736 : decode cL_law 736 = .ok (.iload 5, 2) := by decide +kernel
theorem dL_law_738 : decode cL_law 738 = .ok (.iconst 1, 1) := by decide +kernel
theorem dL_law_739 : decode cL_law 739 = .ok (.iadd, 1) := by decide +kernel
theorem dL_law_740 : decode cL_law 740 = .ok (.iaload, 1) := by decide +kernel
theorem dL_law_741 : decode cL_law 741 = .ok (.aload_n 0, 1) := by decide +kernel
theorem dL_law_742 : decode cL_law 742 = .ok (.iload 5, 2) := by decide +kernel
theorem dL_law_744 : decode cL_law 744 = .ok (.iconst 2, 1) := by decide +kernel
theorem dL_law_745 : decode cL_law 745 = .ok (.iadd, 1) := by decide +kernel
theorem dL_law_746 : decode cL_law 746 = .ok (.iaload, 1) := by decide +kernel
theorem dL_law_747 : decode cL_law 747 = .ok (.aload 4, 2) := by decide +kernel
theorem dL_law_749 : decode cL_law 749 = .ok (.invokestatic 121, 3) := by decide +kernel
theorem dL_law_752 : decode cL_law 752 = .ok (.istore 6, 2) := by decide +kernel
theorem dL_law_754 : decode cL_law 754 = .ok (.aload_n 2, 1) := by decide +kernel
theorem dL_law_755 : decode cL_law 755 = .ok (.aload_n 0, 1) := by decide +kernel
theorem dL_law_756 : decode cL_law 756 = .ok (.iload 5, 2) := by decide +kernel
theorem dL_law_758 : decode cL_law 758 = .ok (.iconst 1, 1) := by decide +kernel
theorem dL_law_759 : decode cL_law 759 = .ok (.iadd, 1) := by decide +kernel
theorem dL_law_760 : decode cL_law 760 = .ok (.iaload, 1) := by decide +kernel
theorem dL_law_761 : decode cL_law 761 = .ok (.aload_n 0, 1) := by decide +kernel
theorem dL_law_762 : decode cL_law 762 = .ok (.iload 5, 2) := by decide +kernel
theorem dL_law_764 : decode cL_law 764 = .ok (.iconst 2, 1) := by decide +kernel
theorem dL_law_765 : decode cL_law 765 = .ok (.iadd, 1) := by decide +kernel
theorem dL_law_766 : decode cL_law 766 = .ok (.iaload, 1) := by decide +kernel
theorem dL_law_767 : decode cL_law 767 = .ok (.invokevirtual 124, 3) := by decide +kernel
theorem dL_law_770 : decode cL_law 770 = .ok (.dstore 7, 2) := by decide +kernel
theorem dL_law_772 : decode cL_law 772 = .ok (.aload_n 2, 1) := by decide +kernel
theorem dL_law_773 : decode cL_law 773 = .ok (.invokevirtual 81, 3) := by decide +kernel
theorem dL_law_776 : decode cL_law 776 = .ok (.iload 6, 2) := by decide +kernel
theorem dL_law_778 : decode cL_law 778 = .ok (.if_icmp .eq 5, 3) := by decide +kernel
theorem dL_law_781 : decode cL_law 781 = .ok (.iconst 0, 1) := by decide +kernel
theorem dL_law_782 : decode cL_law 782 = .ok (.ireturn, 1) := by decide +kernel
theorem dL_law_783 : decode cL_law 783 = .ok (.iload 6, 2) := by decide +kernel
theorem dL_law_785 : decode cL_law 785 = .ok (.ifCond .ne 35, 3) := by decide +kernel
theorem dL_law_788 : decode cL_law 788 = .ok (.aload 4, 2) := by decide +kernel
theorem dL_law_790 : decode cL_law 790 = .ok (.iconst 0, 1) := by decide +kernel
theorem dL_law_791 : decode cL_law 791 = .ok (.daload, 1) := by decide +kernel
theorem dL_law_792 : decode cL_law 792 = .ok (.dload 7, 2) := by decide +kernel
theorem dL_law_794 : decode cL_law 794 = .ok (.dcmp .l, 1) := by decide +kernel
theorem dL_law_795 : decode cL_law 795 = .ok (.ifCond .eq 25, 3) := by decide +kernel
theorem dL_law_798 : decode cL_law 798 = .ok (.aload 4, 2) := by decide +kernel
theorem dL_law_800 : decode cL_law 800 = .ok (.iconst 0, 1) := by decide +kernel
theorem dL_law_801 : decode cL_law 801 = .ok (.daload, 1) := by decide +kernel
theorem dL_law_802 : decode cL_law 802 = .ok (.aload 4, 2) := by decide +kernel
theorem dL_law_804 : decode cL_law 804 = .ok (.iconst 0, 1) := by decide +kernel
theorem dL_law_805 : decode cL_law 805 = .ok (.daload, 1) := by decide +kernel
theorem dL_law_806 : decode cL_law 806 = .ok (.dcmp .l, 1) := by decide +kernel
theorem dL_law_807 : decode cL_law 807 = .ok (.ifCond .eq 11, 3) := by decide +kernel
theorem dL_law_810 : decode cL_law 810 = .ok (.dload 7, 2) := by decide +kernel
theorem dL_law_812 : decode cL_law 812 = .ok (.dload 7, 2) := by decide +kernel
theorem dL_law_814 : decode cL_law 814 = .ok (.dcmp .l, 1) := by decide +kernel
theorem dL_law_815 : decode cL_law 815 = .ok (.ifCond .ne 5, 3) := by decide +kernel
theorem dL_law_818 : decode cL_law 818 = .ok (.iconst 0, 1) := by decide +kernel
theorem dL_law_819 : decode cL_law 819 = .ok (.ireturn, 1) := by decide +kernel
theorem dL_law_820 : decode cL_law 820 = .ok (.goto 357, 3) := by decide +kernel
theorem dL_law_823 : decode cL_law 823 = .ok (.aload_n 1, 1) := by decide +kernel
theorem dL_law_824 : decode cL_law 824 = .ok (.aload_n 0, 1) := by decide +kernel
theorem dL_law_825 : decode cL_law 825 = .ok (.iload 5, 2) := by decide +kernel
theorem dL_law_827 : decode cL_law 827 = .ok (.iconst 1, 1) := by decide +kernel
theorem dL_law_828 : decode cL_law 828 = .ok (.iadd, 1) := by decide +kernel
theorem dL_law_829 : decode cL_law 829 = .ok (.iaload, 1) := by decide +kernel
theorem dL_law_830 : decode cL_law 830 = .ok (.aload 4, 2) := by decide +kernel
theorem dL_law_832 : decode cL_law 832 = .ok (.invokestatic 125, 3) := by decide +kernel
theorem dL_law_835 : decode cL_law 835 = .ok (.istore 6, 2) := by decide +kernel
theorem dL_law_837 : decode cL_law 837 = .ok (.aload_n 2, 1) := by decide +kernel
theorem dL_law_838 : decode cL_law 838 = .ok (.aload_n 0, 1) := by decide +kernel
theorem dL_law_839 : decode cL_law 839 = .ok (.iload 5, 2) := by decide +kernel
theorem dL_law_841 : decode cL_law 841 = .ok (.iconst 1, 1) := by decide +kernel
theorem dL_law_842 : decode cL_law 842 = .ok (.iadd, 1) := by decide +kernel
theorem dL_law_843 : decode cL_law 843 = .ok (.iaload, 1) := by decide +kernel
theorem dL_law_844 : decode cL_law 844 = .ok (.invokevirtual 128, 3) := by decide +kernel
theorem dL_law_847 : decode cL_law 847 = .ok (.dstore 7, 2) := by decide +kernel
theorem dL_law_849 : decode cL_law 849 = .ok (.aload_n 2, 1) := by decide +kernel
theorem dL_law_850 : decode cL_law 850 = .ok (.invokevirtual 81, 3) := by decide +kernel
theorem dL_law_853 : decode cL_law 853 = .ok (.iload 6, 2) := by decide +kernel
theorem dL_law_855 : decode cL_law 855 = .ok (.if_icmp .eq 5, 3) := by decide +kernel
theorem dL_law_858 : decode cL_law 858 = .ok (.iconst 0, 1) := by decide +kernel
theorem dL_law_859 : decode cL_law 859 = .ok (.ireturn, 1) := by decide +kernel
theorem dL_law_860 : decode cL_law 860 = .ok (.iload 6, 2) := by decide +kernel
theorem dL_law_862 : decode cL_law 862 = .ok (.ifCond .ne 35, 3) := by decide +kernel
theorem dL_law_865 : decode cL_law 865 = .ok (.aload 4, 2) := by decide +kernel
theorem dL_law_867 : decode cL_law 867 = .ok (.iconst 0, 1) := by decide +kernel
theorem dL_law_868 : decode cL_law 868 = .ok (.daload, 1) := by decide +kernel
theorem dL_law_869 : decode cL_law 869 = .ok (.dload 7, 2) := by decide +kernel
theorem dL_law_871 : decode cL_law 871 = .ok (.dcmp .l, 1) := by decide +kernel
theorem dL_law_872 : decode cL_law 872 = .ok (.ifCond .eq 25, 3) := by decide +kernel
theorem dL_law_875 : decode cL_law 875 = .ok (.aload 4, 2) := by decide +kernel
theorem dL_law_877 : decode cL_law 877 = .ok (.iconst 0, 1) := by decide +kernel
theorem dL_law_878 : decode cL_law 878 = .ok (.daload, 1) := by decide +kernel
theorem dL_law_879 : decode cL_law 879 = .ok (.aload 4, 2) := by decide +kernel
theorem dL_law_881 : decode cL_law 881 = .ok (.iconst 0, 1) := by decide +kernel
theorem dL_law_882 : decode cL_law 882 = .ok (.daload, 1) := by decide +kernel
theorem dL_law_883 : decode cL_law 883 = .ok (.dcmp .l, 1) := by decide +kernel
theorem dL_law_884 : decode cL_law 884 = .ok (.ifCond .eq 11, 3) := by decide +kernel
theorem dL_law_887 : decode cL_law 887 = .ok (.dload 7, 2) := by decide +kernel
theorem dL_law_889 : decode cL_law 889 = .ok (.dload 7, 2) := by decide +kernel
theorem dL_law_891 : decode cL_law 891 = .ok (.dcmp .l, 1) := by decide +kernel
theorem dL_law_892 : decode cL_law 892 = .ok (.ifCond .ne 5, 3) := by decide +kernel
theorem dL_law_895 : decode cL_law 895 = .ok (.iconst 0, 1) := by decide +kernel
theorem dL_law_896 : decode cL_law 896 = .ok (.ireturn, 1) := by decide +kernel
theorem dL_law_897 : decode cL_law 897 = .ok (.goto 280, 3) := by decide +kernel
theorem dL_law_900 : decode cL_law 900 = .ok (.aload_n 1, 1) := by decide +kernel
theorem dL_law_901 : decode cL_law 901 = .ok (.aload_n 0, 1) := by decide +kernel
theorem dL_law_902 : decode cL_law 902 = .ok (.iload 5, 2) := by decide +kernel
theorem dL_law_904 : decode cL_law 904 = .ok (.iconst 1, 1) := by decide +kernel
theorem dL_law_905 : decode cL_law 905 = .ok (.iadd, 1) := by decide +kernel
theorem dL_law_906 : decode cL_law 906 = .ok (.iaload, 1) := by decide +kernel
theorem dL_law_907 : decode cL_law 907 = .ok (.aload_n 0, 1) := by decide +kernel
theorem dL_law_908 : decode cL_law 908 = .ok (.iload 5, 2) := by decide +kernel
theorem dL_law_910 : decode cL_law 910 = .ok (.iconst 2, 1) := by decide +kernel
theorem dL_law_911 : decode cL_law 911 = .ok (.iadd, 1) := by decide +kernel
theorem dL_law_912 : decode cL_law 912 = .ok (.iaload, 1) := by decide +kernel
theorem dL_law_913 : decode cL_law 913 = .ok (.aload 4, 2) := by decide +kernel
theorem dL_law_915 : decode cL_law 915 = .ok (.invokestatic 129, 3) := by decide +kernel
theorem dL_law_918 : decode cL_law 918 = .ok (.istore 6, 2) := by decide +kernel
theorem dL_law_920 : decode cL_law 920 = .ok (.aload_n 2, 1) := by decide +kernel
theorem dL_law_921 : decode cL_law 921 = .ok (.aload_n 0, 1) := by decide +kernel
theorem dL_law_922 : decode cL_law 922 = .ok (.iload 5, 2) := by decide +kernel
theorem dL_law_924 : decode cL_law 924 = .ok (.iconst 1, 1) := by decide +kernel
theorem dL_law_925 : decode cL_law 925 = .ok (.iadd, 1) := by decide +kernel
theorem dL_law_926 : decode cL_law 926 = .ok (.iaload, 1) := by decide +kernel
theorem dL_law_927 : decode cL_law 927 = .ok (.aload_n 0, 1) := by decide +kernel
theorem dL_law_928 : decode cL_law 928 = .ok (.iload 5, 2) := by decide +kernel
theorem dL_law_930 : decode cL_law 930 = .ok (.iconst 2, 1) := by decide +kernel
theorem dL_law_931 : decode cL_law 931 = .ok (.iadd, 1) := by decide +kernel
theorem dL_law_932 : decode cL_law 932 = .ok (.iaload, 1) := by decide +kernel
theorem dL_law_933 : decode cL_law 933 = .ok (.invokevirtual 131, 3) := by decide +kernel
theorem dL_law_936 : decode cL_law 936 = .ok (.dstore 7, 2) := by decide +kernel
theorem dL_law_938 : decode cL_law 938 = .ok (.aload_n 2, 1) := by decide +kernel
theorem dL_law_939 : decode cL_law 939 = .ok (.invokevirtual 81, 3) := by decide +kernel
theorem dL_law_942 : decode cL_law 942 = .ok (.iload 6, 2) := by decide +kernel
theorem dL_law_944 : decode cL_law 944 = .ok (.if_icmp .eq 5, 3) := by decide +kernel
theorem dL_law_947 : decode cL_law 947 = .ok (.iconst 0, 1) := by decide +kernel
theorem dL_law_948 : decode cL_law 948 = .ok (.ireturn, 1) := by decide +kernel
theorem dL_law_949 : decode cL_law 949 = .ok (.iload 6, 2) := by decide +kernel
theorem dL_law_951 : decode cL_law 951 = .ok (.ifCond .ne 35, 3) := by decide +kernel
theorem dL_law_954 : decode cL_law 954 = .ok (.aload 4, 2) := by decide +kernel
theorem dL_law_956 : decode cL_law 956 = .ok (.iconst 0, 1) := by decide +kernel
theorem dL_law_957 : decode cL_law 957 = .ok (.daload, 1) := by decide +kernel
theorem dL_law_958 : decode cL_law 958 = .ok (.dload 7, 2) := by decide +kernel
theorem dL_law_960 : decode cL_law 960 = .ok (.dcmp .l, 1) := by decide +kernel
theorem dL_law_961 : decode cL_law 961 = .ok (.ifCond .eq 25, 3) := by decide +kernel
theorem dL_law_964 : decode cL_law 964 = .ok (.aload 4, 2) := by decide +kernel
theorem dL_law_966 : decode cL_law 966 = .ok (.iconst 0, 1) := by decide +kernel
theorem dL_law_967 : decode cL_law 967 = .ok (.daload, 1) := by decide +kernel
theorem dL_law_968 : decode cL_law 968 = .ok (.aload 4, 2) := by decide +kernel
theorem dL_law_970 : decode cL_law 970 = .ok (.iconst 0, 1) := by decide +kernel
theorem dL_law_971 : decode cL_law 971 = .ok (.daload, 1) := by decide +kernel
theorem dL_law_972 : decode cL_law 972 = .ok (.dcmp .l, 1) := by decide +kernel
theorem dL_law_973 : decode cL_law 973 = .ok (.ifCond .eq 11, 3) := by decide +kernel
theorem dL_law_976 : decode cL_law 976 = .ok (.dload 7, 2) := by decide +kernel
theorem dL_law_978 : decode cL_law 978 = .ok (.dload 7, 2) := by decide +kernel
theorem dL_law_980 : decode cL_law 980 = .ok (.dcmp .l, 1) := by decide +kernel
theorem dL_law_981 : decode cL_law 981 = .ok (.ifCond .ne 5, 3) := by decide +kernel
theorem dL_law_984 : decode cL_law 984 = .ok (.iconst 0, 1) := by decide +kernel
theorem dL_law_985 : decode cL_law 985 = .ok (.ireturn, 1) := by decide +kernel
theorem dL_law_986 : decode cL_law 986 = .ok (.goto 191, 3) := by decide +kernel
theorem dL_law_989 : decode cL_law 989 = .ok (.aload_n 1, 1) := by decide +kernel
theorem dL_law_990 : decode cL_law 990 = .ok (.invokevirtual 132, 3) := by decide +kernel
theorem dL_law_993 : decode cL_law 993 = .ok (.dstore 6, 2) := by decide +kernel
theorem dL_law_995 : decode cL_law 995 = .ok (.aload_n 2, 1) := by decide +kernel
theorem dL_law_996 : decode cL_law 996 = .ok (.invokevirtual 136, 3) := by decide +kernel
theorem dL_law_999 : decode cL_law 999 = .ok (.dstore 8, 2) := by decide +kernel
theorem dL_law_1001 : decode cL_law 1001 = .ok (.dload 6, 2) := by decide +kernel
theorem dL_law_1003 : decode cL_law 1003 = .ok (.dload 8, 2) := by decide +kernel
theorem dL_law_1005 : decode cL_law 1005 = .ok (.dcmp .l, 1) := by decide +kernel
theorem dL_law_1006 : decode cL_law 1006 = .ok (.ifCond .eq 21, 3) := by decide +kernel
theorem dL_law_1009 : decode cL_law 1009 = .ok (.dload 6, 2) := by decide +kernel
theorem dL_law_1011 : decode cL_law 1011 = .ok (.dload 6, 2) := by decide +kernel
theorem dL_law_1013 : decode cL_law 1013 = .ok (.dcmp .l, 1) := by decide +kernel
theorem dL_law_1014 : decode cL_law 1014 = .ok (.ifCond .eq 11, 3) := by decide +kernel
theorem dL_law_1017 : decode cL_law 1017 = .ok (.dload 8, 2) := by decide +kernel
theorem dL_law_1019 : decode cL_law 1019 = .ok (.dload 8, 2) := by decide +kernel
theorem dL_law_1021 : decode cL_law 1021 = .ok (.dcmp .l, 1) := by decide +kernel
theorem dL_law_1022 : decode cL_law 1022 = .ok (.ifCond .ne 5, 3) := by decide +kernel
theorem dL_law_1025 : decode cL_law 1025 = .ok (.iconst 0, 1) := by decide +kernel
theorem dL_law_1026 : decode cL_law 1026 = .ok (.ireturn, 1) := by decide +kernel
theorem dL_law_1027 : decode cL_law 1027 = .ok (.goto 150, 3) := by decide +kernel
theorem dL_law_1030 : decode cL_law 1030 = .ok (.aload_n 1, 1) := by decide +kernel
theorem dL_law_1031 : decode cL_law 1031 = .ok (.aload_n 0, 1) := by decide +kernel
theorem dL_law_1032 : decode cL_law 1032 = .ok (.iload 5, 2) := by decide +kernel
theorem dL_law_1034 : decode cL_law 1034 = .ok (.iconst 1, 1) := by decide +kernel
theorem dL_law_1035 : decode cL_law 1035 = .ok (.iadd, 1) := by decide +kernel
theorem dL_law_1036 : decode cL_law 1036 = .ok (.iaload, 1) := by decide +kernel
theorem dL_law_1037 : decode cL_law 1037 = .ok (.aload 4, 2) := by decide +kernel
theorem dL_law_1039 : decode cL_law 1039 = .ok (.invokestatic 137, 3) := by decide +kernel
theorem dL_law_1042 : decode cL_law 1042 = .ok (.istore 6, 2) := by decide +kernel
theorem dL_law_1044 : decode cL_law 1044 = .ok (.aload_n 2, 1) := by decide +kernel
theorem dL_law_1045 : decode cL_law 1045 = .ok (.aload_n 0, 1) := by decide +kernel
theorem dL_law_1046 : decode cL_law 1046 = .ok (.iload 5, 2) := by decide +kernel
theorem dL_law_1048 : decode cL_law 1048 = .ok (.iconst 1, 1) := by decide +kernel
theorem dL_law_1049 : decode cL_law 1049 = .ok (.iadd, 1) := by decide +kernel
theorem dL_law_1050 : decode cL_law 1050 = .ok (.iaload, 1) := by decide +kernel
theorem dL_law_1051 : decode cL_law 1051 = .ok (.invokevirtual 139, 3) := by decide +kernel
theorem dL_law_1054 : decode cL_law 1054 = .ok (.dstore 7, 2) := by decide +kernel
theorem dL_law_1056 : decode cL_law 1056 = .ok (.aload_n 2, 1) := by decide +kernel
theorem dL_law_1057 : decode cL_law 1057 = .ok (.invokevirtual 81, 3) := by decide +kernel
theorem dL_law_1060 : decode cL_law 1060 = .ok (.iload 6, 2) := by decide +kernel
theorem dL_law_1062 : decode cL_law 1062 = .ok (.if_icmp .eq 5, 3) := by decide +kernel
theorem dL_law_1065 : decode cL_law 1065 = .ok (.iconst 0, 1) := by decide +kernel
theorem dL_law_1066 : decode cL_law 1066 = .ok (.ireturn, 1) := by decide +kernel
theorem dL_law_1067 : decode cL_law 1067 = .ok (.iload 6, 2) := by decide +kernel
theorem dL_law_1069 : decode cL_law 1069 = .ok (.ifCond .ne 35, 3) := by decide +kernel
theorem dL_law_1072 : decode cL_law 1072 = .ok (.aload 4, 2) := by decide +kernel
theorem dL_law_1074 : decode cL_law 1074 = .ok (.iconst 0, 1) := by decide +kernel
theorem dL_law_1075 : decode cL_law 1075 = .ok (.daload, 1) := by decide +kernel
theorem dL_law_1076 : decode cL_law 1076 = .ok (.dload 7, 2) := by decide +kernel
theorem dL_law_1078 : decode cL_law 1078 = .ok (.dcmp .l, 1) := by decide +kernel
theorem dL_law_1079 : decode cL_law 1079 = .ok (.ifCond .eq 25, 3) := by decide +kernel
theorem dL_law_1082 : decode cL_law 1082 = .ok (.aload 4, 2) := by decide +kernel
theorem dL_law_1084 : decode cL_law 1084 = .ok (.iconst 0, 1) := by decide +kernel
theorem dL_law_1085 : decode cL_law 1085 = .ok (.daload, 1) := by decide +kernel
theorem dL_law_1086 : decode cL_law 1086 = .ok (.aload 4, 2) := by decide +kernel
theorem dL_law_1088 : decode cL_law 1088 = .ok (.iconst 0, 1) := by decide +kernel
theorem dL_law_1089 : decode cL_law 1089 = .ok (.daload, 1) := by decide +kernel
theorem dL_law_1090 : decode cL_law 1090 = .ok (.dcmp .l, 1) := by decide +kernel
theorem dL_law_1091 : decode cL_law 1091 = .ok (.ifCond .eq 11, 3) := by decide +kernel
theorem dL_law_1094 : decode cL_law 1094 = .ok (.dload 7, 2) := by decide +kernel
theorem dL_law_1096 : decode cL_law 1096 = .ok (.dload 7, 2) := by decide +kernel
theorem dL_law_1098 : decode cL_law 1098 = .ok (.dcmp .l, 1) := by decide +kernel
theorem dL_law_1099 : decode cL_law 1099 = .ok (.ifCond .ne 5, 3) := by decide +kernel
theorem dL_law_1102 : decode cL_law 1102 = .ok (.iconst 0, 1) := by decide +kernel
theorem dL_law_1103 : decode cL_law 1103 = .ok (.ireturn, 1) := by decide +kernel
theorem dL_law_1104 : decode cL_law 1104 = .ok (.goto 73, 3) := by decide +kernel
theorem dL_law_1107 : decode cL_law 1107 = .ok (.aload_n 1, 1) := by decide +kernel
theorem dL_law_1108 : decode cL_law 1108 = .ok (.invokevirtual 140, 3) := by decide +kernel
theorem dL_law_1111 : decode cL_law 1111 = .ok (.aload_n 2, 1) := by decide +kernel
theorem dL_law_1112 : decode cL_law 1112 = .ok (.invokevirtual 144, 3) := by decide +kernel
theorem dL_law_1115 : decode cL_law 1115 = .ok (.lcmp, 1) := by decide +kernel
theorem dL_law_1116 : decode cL_law 1116 = .ok (.ifCond .eq 61, 3) := by decide +kernel
theorem dL_law_1119 : decode cL_law 1119 = .ok (.iconst 0, 1) := by decide +kernel
theorem dL_law_1120 : decode cL_law 1120 = .ok (.ireturn, 1) := by decide +kernel
theorem dL_law_1121 : decode cL_law 1121 = .ok (.aload_n 1, 1) := by decide +kernel
theorem dL_law_1122 : decode cL_law 1122 = .ok (.aload_n 0, 1) := by decide +kernel
theorem dL_law_1123 : decode cL_law 1123 = .ok (.iload 5, 2) := by decide +kernel
theorem dL_law_1125 : decode cL_law 1125 = .ok (.iconst 1, 1) := by decide +kernel
theorem dL_law_1126 : decode cL_law 1126 = .ok (.iadd, 1) := by decide +kernel
theorem dL_law_1127 : decode cL_law 1127 = .ok (.iaload, 1) := by decide +kernel
theorem dL_law_1128 : decode cL_law 1128 = .ok (.aload_n 3, 1) := by decide +kernel
theorem dL_law_1129 : decode cL_law 1129 = .ok (.invokestatic 145, 3) := by decide +kernel
theorem dL_law_1132 : decode cL_law 1132 = .ok (.istore 6, 2) := by decide +kernel
theorem dL_law_1134 : decode cL_law 1134 = .ok (.aload_n 2, 1) := by decide +kernel
theorem dL_law_1135 : decode cL_law 1135 = .ok (.aload_n 0, 1) := by decide +kernel
theorem dL_law_1136 : decode cL_law 1136 = .ok (.iload 5, 2) := by decide +kernel
theorem dL_law_1138 : decode cL_law 1138 = .ok (.iconst 1, 1) := by decide +kernel
theorem dL_law_1139 : decode cL_law 1139 = .ok (.iadd, 1) := by decide +kernel
theorem dL_law_1140 : decode cL_law 1140 = .ok (.iaload, 1) := by decide +kernel
theorem dL_law_1141 : decode cL_law 1141 = .ok (.invokevirtual 147, 3) := by decide +kernel
theorem dL_law_1144 : decode cL_law 1144 = .ok (.istore 7, 2) := by decide +kernel
theorem dL_law_1146 : decode cL_law 1146 = .ok (.aload_n 2, 1) := by decide +kernel
theorem dL_law_1147 : decode cL_law 1147 = .ok (.invokevirtual 81, 3) := by decide +kernel
theorem dL_law_1150 : decode cL_law 1150 = .ok (.iload 6, 2) := by decide +kernel
theorem dL_law_1152 : decode cL_law 1152 = .ok (.if_icmp .eq 5, 3) := by decide +kernel
theorem dL_law_1155 : decode cL_law 1155 = .ok (.iconst 0, 1) := by decide +kernel
theorem dL_law_1156 : decode cL_law 1156 = .ok (.ireturn, 1) := by decide +kernel
theorem dL_law_1157 : decode cL_law 1157 = .ok (.iload 6, 2) := by decide +kernel
theorem dL_law_1159 : decode cL_law 1159 = .ok (.ifCond .ne 15, 3) := by decide +kernel
theorem dL_law_1162 : decode cL_law 1162 = .ok (.aload_n 3, 1) := by decide +kernel
theorem dL_law_1163 : decode cL_law 1163 = .ok (.iconst 0, 1) := by decide +kernel
theorem dL_law_1164 : decode cL_law 1164 = .ok (.laload, 1) := by decide +kernel
theorem dL_law_1165 : decode cL_law 1165 = .ok (.iload 7, 2) := by decide +kernel
theorem dL_law_1167 : decode cL_law 1167 = .ok (.i2l, 1) := by decide +kernel
theorem dL_law_1168 : decode cL_law 1168 = .ok (.lcmp, 1) := by decide +kernel
theorem dL_law_1169 : decode cL_law 1169 = .ok (.ifCond .eq 5, 3) := by decide +kernel
theorem dL_law_1172 : decode cL_law 1172 = .ok (.iconst 0, 1) := by decide +kernel
theorem dL_law_1173 : decode cL_law 1173 = .ok (.ireturn, 1) := by decide +kernel
theorem dL_law_1174 : decode cL_law 1174 = .ok (.goto 3, 3) := by decide +kernel
theorem dL_law_1177 : decode cL_law 1177 = .ok (.iinc 5 5, 3) := by decide +kernel
theorem dL_law_1180 : decode cL_law 1180 = .ok (.goto (-1132), 3) := by decide +kernel
theorem dL_law_1183 : decode cL_law 1183 = .ok (.iconst 1, 1) := by decide +kernel
theorem dL_law_1184 : decode cL_law 1184 = .ok (.ireturn, 1) := by decide +kernel
