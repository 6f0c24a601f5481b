theorem dX0_init_0 : decode cX0_init 0 = .ok (.aload_n 0, 1) := by decide +kernel
theorem dX0_init_1 : decode cX0_init 1 = .ok (.invokespecial 1, 3) := by decide +kernel
theorem dX0_init_4 : decode cX0_init 4 = .ok (.aload_n 0, 1) := by decide +kernel
theorem dX0_init_5 : decode cX0_init 5 = .ok (.ldc2_w 7, 3) := by decide +kernel
theorem dX0_init_8 : decode cX0_init 8 = .ok (.putfield 9, 3) := by decide +kernel
theorem dX0_init_11 : decode cX0_init 11 = .ok (.aload_n 0, 1) := by decide +kernel
theorem dX0_init_12 : decode cX0_init 12 = .ok (.ldc2_w 15, 3) := by decide +kernel
theorem dX0_init_15 : decode cX0_init 15 = .ok (.putfield 17, 3) := by decide +kernel
theorem dX0_init_18 : decode cX0_init 18 = .ok (.aload_n 0, 1) := by decide +kernel
theorem dX0_init_19 : decode cX0_init 19 = .ok (.dconst 1, 1) := by decide +kernel
theorem dX0_init_20 : decode cX0_init 20 = .ok (.putfield 20, 3) := by decide +kernel
theorem dX0_init_23 : decode cX0_init 23 = .ok (.aload_n 0, 1) := by decide +kernel
theorem dX0_init_24 : decode cX0_init 24 = .ok (.dconst 0, 1) := by decide +kernel
theorem dX0_init_25 : decode cX0_init 25 = .ok (.putfield 23, 3) := by decide +kernel
theorem dX0_init_28 : decode cX0_init 28 = .ok (.return_, 1) := by decide +kernel
theorem dX0_balanceNow_0 : decode cX0_balanceNow 0 = .ok (.ldc2_w 26, 3) := by decide +kernel
theorem dX0_balanceNow_3 : decode cX0_balanceNow 3 = .ok (.aload_n 0, 1) := by decide +kernel
theorem dX0_balanceNow_4 : decode cX0_balanceNow 4 = .ok (.getfield 17, 3) := by decide +kernel
theorem dX0_balanceNow_7 : decode cX0_balanceNow 7 = .ok (.dmul, 1) := by decide +kernel
theorem dX0_balanceNow_8 : decode cX0_balanceNow 8 = .ok (.dconst 1, 1) := by decide +kernel
theorem dX0_balanceNow_9 : decode cX0_balanceNow 9 = .ok (.aload_n 0, 1) := by decide +kernel
theorem dX0_balanceNow_10 : decode cX0_balanceNow 10 = .ok (.getfield 9, 3) := by decide +kernel
theorem dX0_balanceNow_13 : decode cX0_balanceNow 13 = .ok (.ldc2_w 28, 3) := by decide +kernel
theorem dX0_balanceNow_16 : decode cX0_balanceNow 16 = .ok (.dsub, 1) := by decide +kernel
theorem dX0_balanceNow_17 : decode cX0_balanceNow 17 = .ok (.ldc2_w 30, 3) := by decide +kernel
theorem dX0_balanceNow_20 : decode cX0_balanceNow 20 = .ok (.ddiv, 1) := by decide +kernel
theorem dX0_balanceNow_21 : decode cX0_balanceNow 21 = .ok (.dsub, 1) := by decide +kernel
theorem dX0_balanceNow_22 : decode cX0_balanceNow 22 = .ok (.dmul, 1) := by decide +kernel
theorem dX0_balanceNow_23 : decode cX0_balanceNow 23 = .ok (.dreturn, 1) := by decide +kernel
theorem dX0_takeUp_0 : decode cX0_takeUp 0 = .ok (.aload_n 0, 1) := by decide +kernel
theorem dX0_takeUp_1 : decode cX0_takeUp 1 = .ok (.getfield 17, 3) := by decide +kernel
theorem dX0_takeUp_4 : decode cX0_takeUp 4 = .ok (.dload_n 1, 1) := by decide +kernel
theorem dX0_takeUp_5 : decode cX0_takeUp 5 = .ok (.ldc2_w 32, 3) := by decide +kernel
theorem dX0_takeUp_8 : decode cX0_takeUp 8 = .ok (.ddiv, 1) := by decide +kernel
theorem dX0_takeUp_9 : decode cX0_takeUp 9 = .ok (.dconst 1, 1) := by decide +kernel
theorem dX0_takeUp_10 : decode cX0_takeUp 10 = .ok (.aload_n 0, 1) := by decide +kernel
theorem dX0_takeUp_11 : decode cX0_takeUp 11 = .ok (.getfield 23, 3) := by decide +kernel
theorem dX0_takeUp_14 : decode cX0_takeUp 14 = .ok (.dsub, 1) := by decide +kernel
theorem dX0_takeUp_15 : decode cX0_takeUp 15 = .ok (.dmul, 1) := by decide +kernel
theorem dX0_takeUp_16 : decode cX0_takeUp 16 = .ok (.dadd, 1) := by decide +kernel
theorem dX0_takeUp_17 : decode cX0_takeUp 17 = .ok (.dstore_n 3, 1) := by decide +kernel
theorem dX0_takeUp_18 : decode cX0_takeUp 18 = .ok (.dload_n 3, 1) := by decide +kernel
theorem dX0_takeUp_19 : decode cX0_takeUp 19 = .ok (.dconst 0, 1) := by decide +kernel
theorem dX0_takeUp_20 : decode cX0_takeUp 20 = .ok (.dcmp .g, 1) := by decide +kernel
theorem dX0_takeUp_21 : decode cX0_takeUp 21 = .ok (.ifCond .ge 5, 3) := by decide +kernel
theorem dX0_takeUp_24 : decode cX0_takeUp 24 = .ok (.dconst 0, 1) := by decide +kernel
theorem dX0_takeUp_25 : decode cX0_takeUp 25 = .ok (.dstore_n 3, 1) := by decide +kernel
theorem dX0_takeUp_26 : decode cX0_takeUp 26 = .ok (.aload_n 0, 1) := by decide +kernel
theorem dX0_takeUp_27 : decode cX0_takeUp 27 = .ok (.dload_n 3, 1) := by decide +kernel
theorem dX0_takeUp_28 : decode cX0_takeUp 28 = .ok (.dconst 1, 1) := by decide +kernel
theorem dX0_takeUp_29 : decode cX0_takeUp 29 = .ok (.dcmp .l, 1) := by decide +kernel
theorem dX0_takeUp_30 : decode cX0_takeUp 30 = .ok (.ifCond .le 7, 3) := by decide +kernel
theorem dX0_takeUp_33 : decode cX0_takeUp 33 = .ok (.dconst 1, 1) := by decide +kernel
theorem dX0_takeUp_34 : decode cX0_takeUp 34 = .ok (.goto 4, 3) := by decide +kernel
theorem dX0_takeUp_37 : decode cX0_takeUp 37 = .ok (.dload_n 3, 1) := by decide +kernel
theorem dX0_takeUp_38 : decode cX0_takeUp 38 = .ok (.putfield 17, 3) := by decide +kernel
theorem dX0_takeUp_41 : decode cX0_takeUp 41 = .ok (.return_, 1) := by decide +kernel
theorem dX1_init_0 : decode cX1_init 0 = .ok (.aload_n 0, 1) := by decide +kernel
theorem dX1_init_1 : decode cX1_init 1 = .ok (.invokespecial 3, 3) := by decide +kernel
theorem dX1_init_4 : decode cX1_init 4 = .ok (.aload_n 0, 1) := by decide +kernel
theorem dX1_init_5 : decode cX1_init 5 = .ok (.iload_n 1, 1) := by decide +kernel
theorem dX1_init_6 : decode cX1_init 6 = .ok (.newarray .double, 2) := by decide +kernel
theorem dX1_init_8 : decode cX1_init 8 = .ok (.putfield 9, 3) := by decide +kernel
theorem dX1_init_11 : decode cX1_init 11 = .ok (.aload_n 0, 1) := by decide +kernel
theorem dX1_init_12 : decode cX1_init 12 = .ok (.aload_n 2, 1) := by decide +kernel
theorem dX1_init_13 : decode cX1_init 13 = .ok (.putfield 15, 3) := by decide +kernel
theorem dX1_init_16 : decode cX1_init 16 = .ok (.return_, 1) := by decide +kernel
theorem dX1_lay_0 : decode cX1_lay 0 = .ok (.aload_n 0, 1) := by decide +kernel
theorem dX1_lay_1 : decode cX1_lay 1 = .ok (.iconst 1, 1) := by decide +kernel
theorem dX1_lay_2 : decode cX1_lay 2 = .ok (.putfield 19, 3) := by decide +kernel
theorem dX1_lay_5 : decode cX1_lay 5 = .ok (.aload_n 0, 1) := by decide +kernel
theorem dX1_lay_6 : decode cX1_lay 6 = .ok (.dload_n 1, 1) := by decide +kernel
theorem dX1_lay_7 : decode cX1_lay 7 = .ok (.aload_n 0, 1) := by decide +kernel
theorem dX1_lay_8 : decode cX1_lay 8 = .ok (.getfield 9, 3) := by decide +kernel
theorem dX1_lay_11 : decode cX1_lay 11 = .ok (.arraylength, 1) := by decide +kernel
theorem dX1_lay_12 : decode cX1_lay 12 = .ok (.i2d, 1) := by decide +kernel
theorem dX1_lay_13 : decode cX1_lay 13 = .ok (.ddiv, 1) := by decide +kernel
theorem dX1_lay_14 : decode cX1_lay 14 = .ok (.putfield 23, 3) := by decide +kernel
theorem dX1_lay_17 : decode cX1_lay 17 = .ok (.aload_n 0, 1) := by decide +kernel
theorem dX1_lay_18 : decode cX1_lay 18 = .ok (.aload 5, 2) := by decide +kernel
theorem dX1_lay_20 : decode cX1_lay 20 = .ok (.putfield 15, 3) := by decide +kernel
theorem dX1_lay_23 : decode cX1_lay 23 = .ok (.iconst 0, 1) := by decide +kernel
theorem dX1_lay_24 : decode cX1_lay 24 = .ok (.istore 6, 2) := by decide +kernel
theorem dX1_lay_26 : decode cX1_lay 26 = .ok (.iload 6, 2) := by decide +kernel
theorem dX1_lay_28 : decode cX1_lay 28 = .ok (.aload_n 0, 1) := by decide +kernel
theorem dX1_lay_29 : decode cX1_lay 29 = .ok (.getfield 9, 3) := by decide +kernel
theorem dX1_lay_32 : decode cX1_lay 32 = .ok (.arraylength, 1) := by decide +kernel
theorem dX1_lay_33 : decode cX1_lay 33 = .ok (.if_icmp .ge 17, 3) := by decide +kernel
theorem dX1_lay_36 : decode cX1_lay 36 = .ok (.aload_n 0, 1) := by decide +kernel
theorem dX1_lay_37 : decode cX1_lay 37 = .ok (.getfield 9, 3) := by decide +kernel
theorem dX1_lay_40 : decode cX1_lay 40 = .ok (.iload 6, 2) := by decide +kernel
theorem dX1_lay_42 : decode cX1_lay 42 = .ok (.dload_n 3, 1) := by decide +kernel
theorem dX1_lay_43 : decode cX1_lay 43 = .ok (.dastore, 1) := by decide +kernel
theorem dX1_lay_44 : decode cX1_lay 44 = .ok (.iinc 6 1, 3) := by decide +kernel
theorem dX1_lay_47 : decode cX1_lay 47 = .ok (.goto (-21), 3) := by decide +kernel
theorem dX1_lay_50 : decode cX1_lay 50 = .ok (.aload_n 0, 1) := by decide +kernel
theorem dX1_lay_51 : decode cX1_lay 51 = .ok (.iconst 0, 1) := by decide +kernel
theorem dX1_lay_52 : decode cX1_lay 52 = .ok (.putfield 27, 3) := by decide +kernel
theorem dX1_lay_55 : decode cX1_lay 55 = .ok (.aload_n 0, 1) := by decide +kernel
theorem dX1_lay_56 : decode cX1_lay 56 = .ok (.iconst (-1), 1) := by decide +kernel
theorem dX1_lay_57 : decode cX1_lay 57 = .ok (.putfield 30, 3) := by decide +kernel
theorem dX1_lay_60 : decode cX1_lay 60 = .ok (.return_, 1) := by decide +kernel
theorem dX1_setLimit_0 : decode cX1_setLimit 0 = .ok (.aload_n 0, 1) := by decide +kernel
theorem dX1_setLimit_1 : decode cX1_setLimit 1 = .ok (.iconst 1, 1) := by decide +kernel
theorem dX1_setLimit_2 : decode cX1_setLimit 2 = .ok (.putfield 27, 3) := by decide +kernel
theorem dX1_setLimit_5 : decode cX1_setLimit 5 = .ok (.aload_n 0, 1) := by decide +kernel
theorem dX1_setLimit_6 : decode cX1_setLimit 6 = .ok (.dload_n 1, 1) := by decide +kernel
theorem dX1_setLimit_7 : decode cX1_setLimit 7 = .ok (.putfield 34, 3) := by decide +kernel
theorem dX1_setLimit_10 : decode cX1_setLimit 10 = .ok (.aload_n 0, 1) := by decide +kernel
theorem dX1_setLimit_11 : decode cX1_setLimit 11 = .ok (.iconst (-1), 1) := by decide +kernel
theorem dX1_setLimit_12 : decode cX1_setLimit 12 = .ok (.putfield 30, 3) := by decide +kernel
theorem dX1_setLimit_15 : decode cX1_setLimit 15 = .ok (.return_, 1) := by decide +kernel
theorem dX1_meanWetness_0 : decode cX1_meanWetness 0 = .ok (.dconst 0, 1) := by decide +kernel
theorem dX1_meanWetness_1 : decode cX1_meanWetness 1 = .ok (.dstore_n 1, 1) := by decide +kernel
theorem dX1_meanWetness_2 : decode cX1_meanWetness 2 = .ok (.iconst 0, 1) := by decide +kernel
theorem dX1_meanWetness_3 : decode cX1_meanWetness 3 = .ok (.istore_n 3, 1) := by decide +kernel
theorem dX1_meanWetness_4 : decode cX1_meanWetness 4 = .ok (.iload_n 3, 1) := by decide +kernel
theorem dX1_meanWetness_5 : decode cX1_meanWetness 5 = .ok (.aload_n 0, 1) := by decide +kernel
theorem dX1_meanWetness_6 : decode cX1_meanWetness 6 = .ok (.getfield 9, 3) := by decide +kernel
theorem dX1_meanWetness_9 : decode cX1_meanWetness 9 = .ok (.arraylength, 1) := by decide +kernel
theorem dX1_meanWetness_10 : decode cX1_meanWetness 10 = .ok (.if_icmp .ge 18, 3) := by decide +kernel
theorem dX1_meanWetness_13 : decode cX1_meanWetness 13 = .ok (.dload_n 1, 1) := by decide +kernel
theorem dX1_meanWetness_14 : decode cX1_meanWetness 14 = .ok (.aload_n 0, 1) := by decide +kernel
theorem dX1_meanWetness_15 : decode cX1_meanWetness 15 = .ok (.getfield 9, 3) := by decide +kernel
theorem dX1_meanWetness_18 : decode cX1_meanWetness 18 = .ok (.iload_n 3, 1) := by decide +kernel
theorem dX1_meanWetness_19 : decode cX1_meanWetness 19 = .ok (.daload, 1) := by decide +kernel
theorem dX1_meanWetness_20 : decode cX1_meanWetness 20 = .ok (.dadd, 1) := by decide +kernel
theorem dX1_meanWetness_21 : decode cX1_meanWetness 21 = .ok (.dstore_n 1, 1) := by decide +kernel
theorem dX1_meanWetness_22 : decode cX1_meanWetness 22 = .ok (.iinc 3 1, 3) := by decide +kernel
theorem dX1_meanWetness_25 : decode cX1_meanWetness 25 = .ok (.goto (-21), 3) := by decide +kernel
theorem dX1_meanWetness_28 : decode cX1_meanWetness 28 = .ok (.dload_n 1, 1) := by decide +kernel
theorem dX1_meanWetness_29 : decode cX1_meanWetness 29 = .ok (.aload_n 0, 1) := by decide +kernel
theorem dX1_meanWetness_30 : decode cX1_meanWetness 30 = .ok (.getfield 9, 3) := by decide +kernel
theorem dX1_meanWetness_33 : decode cX1_meanWetness 33 = .ok (.arraylength, 1) := by decide +kernel
theorem dX1_meanWetness_34 : decode cX1_meanWetness 34 = .ok (.i2d, 1) := by decide +kernel
theorem dX1_meanWetness_35 : decode cX1_meanWetness 35 = .ok (.ddiv, 1) := by decide +kernel
theorem dX1_meanWetness_36 : decode cX1_meanWetness 36 = .ok (.dreturn, 1) := by decide +kernel
theorem dX1_greatestWetness_0 : decode cX1_greatestWetness 0 = .ok (.dconst 0, 1) := by decide +kernel
theorem dX1_greatestWetness_1 : decode cX1_greatestWetness 1 = .ok (.dstore_n 1, 1) := by decide +kernel
theorem dX1_greatestWetness_2 : decode cX1_greatestWetness 2 = .ok (.iconst 0, 1) := by decide +kernel
theorem dX1_greatestWetness_3 : decode cX1_greatestWetness 3 = .ok (.istore_n 3, 1) := by decide +kernel
theorem dX1_greatestWetness_4 : decode cX1_greatestWetness 4 = .ok (.iload_n 3, 1) := by decide +kernel
theorem dX1_greatestWetness_5 : decode cX1_greatestWetness 5 = .ok (.aload_n 0, 1) := by decide +kernel
theorem dX1_greatestWetness_6 : decode cX1_greatestWetness 6 = .ok (.getfield 9, 3) := by decide +kernel
theorem dX1_greatestWetness_9 : decode cX1_greatestWetness 9 = .ok (.arraylength, 1) := by decide +kernel
theorem dX1_greatestWetness_10 : decode cX1_greatestWetness 10 = .ok (.if_icmp .ge 27, 3) := by decide +kernel
theorem dX1_greatestWetness_13 : decode cX1_greatestWetness 13 = .ok (.aload_n 0, 1) := by decide +kernel
theorem dX1_greatestWetness_14 : decode cX1_greatestWetness 14 = .ok (.getfield 9, 3) := by decide +kernel
theorem dX1_greatestWetness_17 : decode cX1_greatestWetness 17 = .ok (.iload_n 3, 1) := by decide +kernel
theorem dX1_greatestWetness_18 : decode cX1_greatestWetness 18 = .ok (.daload, 1) := by decide +kernel
theorem dX1_greatestWetness_19 : decode cX1_greatestWetness 19 = .ok (.dload_n 1, 1) := by decide +kernel
theorem dX1_greatestWetness_20 : decode cX1_greatestWetness 20 = .ok (.dcmp .l, 1) := by decide +kernel
theorem dX1_greatestWetness_21 : decode cX1_greatestWetness 21 = .ok (.ifCond .le 10, 3) := by decide +kernel
theorem dX1_greatestWetness_24 : decode cX1_greatestWetness 24 = .ok (.aload_n 0, 1) := by decide +kernel
theorem dX1_greatestWetness_25 : decode cX1_greatestWetness 25 = .ok (.getfield 9, 3) := by decide +kernel
theorem dX1_greatestWetness_28 : decode cX1_greatestWetness 28 = .ok (.iload_n 3, 1) := by decide +kernel
theorem dX1_greatestWetness_29 : decode cX1_greatestWetness 29 = .ok (.daload, 1) := by decide +kernel
theorem dX1_greatestWetness_30 : decode cX1_greatestWetness 30 = .ok (.dstore_n 1, 1) := by decide +kernel
theorem dX1_greatestWetness_31 : decode cX1_greatestWetness 31 = .ok (.iinc 3 1, 3) := by decide +kernel
theorem dX1_greatestWetness_34 : decode cX1_greatestWetness 34 = .ok (.goto (-30), 3) := by decide +kernel
theorem dX1_greatestWetness_37 : decode cX1_greatestWetness 37 = .ok (.dload_n 1, 1) := by decide +kernel
theorem dX1_greatestWetness_38 : decode cX1_greatestWetness 38 = .ok (.dreturn, 1) := by decide +kernel
theorem dX1_refuses_0 : decode cX1_refuses 0 = .ok (.dload_n 1, 1) := by decide +kernel
theorem dX1_refuses_1 : decode cX1_refuses 1 = .ok (.ldc2_w 37, 3) := by decide +kernel
theorem dX1_refuses_4 : decode cX1_refuses 4 = .ok (.aload_n 0, 1) := by decide +kernel
theorem dX1_refuses_5 : decode cX1_refuses 5 = .ok (.getfield 23, 3) := by decide +kernel
theorem dX1_refuses_8 : decode cX1_refuses 8 = .ok (.dmul, 1) := by decide +kernel
theorem dX1_refuses_9 : decode cX1_refuses 9 = .ok (.ddiv, 1) := by decide +kernel
theorem dX1_refuses_10 : decode cX1_refuses 10 = .ok (.ldc2_w 39, 3) := by decide +kernel
theorem dX1_refuses_13 : decode cX1_refuses 13 = .ok (.dcmp .l, 1) := by decide +kernel
theorem dX1_refuses_14 : decode cX1_refuses 14 = .ok (.ifCond .gt 31, 3) := by decide +kernel
theorem dX1_refuses_17 : decode cX1_refuses 17 = .ok (.aload_n 0, 1) := by decide +kernel
theorem dX1_refuses_18 : decode cX1_refuses 18 = .ok (.getfield 15, 3) := by decide +kernel
theorem dX1_refuses_21 : decode cX1_refuses 21 = .ok (.aload_n 0, 1) := by decide +kernel
theorem dX1_refuses_22 : decode cX1_refuses 22 = .ok (.invokevirtual 41, 3) := by decide +kernel
theorem dX1_refuses_25 : decode cX1_refuses 25 = .ok (.invokevirtual 45, 3) := by decide +kernel
theorem dX1_refuses_28 : decode cX1_refuses 28 = .ok (.aload_n 0, 1) := by decide +kernel
theorem dX1_refuses_29 : decode cX1_refuses 29 = .ok (.getfield 23, 3) := by decide +kernel
theorem dX1_refuses_32 : decode cX1_refuses 32 = .ok (.aload_n 0, 1) := by decide +kernel
theorem dX1_refuses_33 : decode cX1_refuses 33 = .ok (.getfield 23, 3) := by decide +kernel
theorem dX1_refuses_36 : decode cX1_refuses 36 = .ok (.dmul, 1) := by decide +kernel
theorem dX1_refuses_37 : decode cX1_refuses 37 = .ok (.ddiv, 1) := by decide +kernel
theorem dX1_refuses_38 : decode cX1_refuses 38 = .ok (.ldc2_w 39, 3) := by decide +kernel
theorem dX1_refuses_41 : decode cX1_refuses 41 = .ok (.dcmp .l, 1) := by decide +kernel
theorem dX1_refuses_42 : decode cX1_refuses 42 = .ok (.ifCond .le 7, 3) := by decide +kernel
theorem dX1_refuses_45 : decode cX1_refuses 45 = .ok (.iconst 1, 1) := by decide +kernel
theorem dX1_refuses_46 : decode cX1_refuses 46 = .ok (.goto 4, 3) := by decide +kernel
theorem dX1_refuses_49 : decode cX1_refuses 49 = .ok (.iconst 0, 1) := by decide +kernel
theorem dX1_refuses_50 : decode cX1_refuses 50 = .ok (.ireturn, 1) := by decide +kernel
theorem dX1_dry_0 : decode cX1_dry 0 = .ok (.aload_n 0, 1) := by decide +kernel
theorem dX1_dry_1 : decode cX1_dry 1 = .ok (.getfield 9, 3) := by decide +kernel
theorem dX1_dry_4 : decode cX1_dry 4 = .ok (.arraylength, 1) := by decide +kernel
theorem dX1_dry_5 : decode cX1_dry 5 = .ok (.iconst 1, 1) := by decide +kernel
theorem dX1_dry_6 : decode cX1_dry 6 = .ok (.isub, 1) := by decide +kernel
theorem dX1_dry_7 : decode cX1_dry 7 = .ok (.istore 5, 2) := by decide +kernel
theorem dX1_dry_9 : decode cX1_dry 9 = .ok (.aload_n 0, 1) := by decide +kernel
theorem dX1_dry_10 : decode cX1_dry 10 = .ok (.aload_n 0, 1) := by decide +kernel
theorem dX1_dry_11 : decode cX1_dry 11 = .ok (.getfield 9, 3) := by decide +kernel
theorem dX1_dry_14 : decode cX1_dry 14 = .ok (.iconst 0, 1) := by decide +kernel
theorem dX1_dry_15 : decode cX1_dry 15 = .ok (.daload, 1) := by decide +kernel
theorem dX1_dry_16 : decode cX1_dry 16 = .ok (.dload_n 1, 1) := by decide +kernel
theorem dX1_dry_17 : decode cX1_dry 17 = .ok (.dload_n 3, 1) := by decide +kernel
theorem dX1_dry_18 : decode cX1_dry 18 = .ok (.invokevirtual 51, 3) := by decide +kernel
theorem dX1_dry_21 : decode cX1_dry 21 = .ok (.dstore 6, 2) := by decide +kernel
theorem dX1_dry_23 : decode cX1_dry 23 = .ok (.aload_n 0, 1) := by decide +kernel
theorem dX1_dry_24 : decode cX1_dry 24 = .ok (.aload_n 0, 1) := by decide +kernel
theorem dX1_dry_25 : decode cX1_dry 25 = .ok (.getfield 9, 3) := by decide +kernel
theorem dX1_dry_28 : decode cX1_dry 28 = .ok (.iload 5, 2) := by decide +kernel
theorem dX1_dry_30 : decode cX1_dry 30 = .ok (.daload, 1) := by decide +kernel
theorem dX1_dry_31 : decode cX1_dry 31 = .ok (.dload_n 1, 1) := by decide +kernel
theorem dX1_dry_32 : decode cX1_dry 32 = .ok (.dload_n 3, 1) := by decide +kernel
theorem dX1_dry_33 : decode cX1_dry 33 = .ok (.invokevirtual 51, 3) := by decide +kernel
theorem dX1_dry_36 : decode cX1_dry 36 = .ok (.dstore 8, 2) := by decide +kernel
theorem dX1_dry_38 : decode cX1_dry 38 = .ok (.dload 6, 2) := by decide +kernel
theorem dX1_dry_40 : decode cX1_dry 40 = .ok (.dneg, 1) := by decide +kernel
theorem dX1_dry_41 : decode cX1_dry 41 = .ok (.dstore 10, 2) := by decide +kernel
theorem dX1_dry_43 : decode cX1_dry 43 = .ok (.iconst 0, 1) := by decide +kernel
theorem dX1_dry_44 : decode cX1_dry 44 = .ok (.istore 12, 2) := by decide +kernel
theorem dX1_dry_46 : decode cX1_dry 46 = .ok (.iload 12, 2) := by decide +kernel
theorem dX1_dry_48 : decode cX1_dry 48 = .ok (.iload 5, 2) := by decide +kernel
theorem dX1_dry_50 : decode cX1_dry 50 = .ok (.if_icmp .gt 67, 3) := by decide +kernel
theorem dX1_dry_53 : decode cX1_dry 53 = .ok (.iload 12, 2) := by decide +kernel
theorem dX1_dry_55 : decode cX1_dry 55 = .ok (.iload 5, 2) := by decide +kernel
theorem dX1_dry_57 : decode cX1_dry 57 = .ok (.if_icmp .ge 26, 3) := by decide +kernel
theorem dX1_dry_60 : decode cX1_dry 60 = .ok (.aload_n 0, 1) := by decide +kernel
theorem dX1_dry_61 : decode cX1_dry 61 = .ok (.aload_n 0, 1) := by decide +kernel
theorem dX1_dry_62 : decode cX1_dry 62 = .ok (.getfield 9, 3) := by decide +kernel
theorem dX1_dry_65 : decode cX1_dry 65 = .ok (.iload 12, 2) := by decide +kernel
theorem dX1_dry_67 : decode cX1_dry 67 = .ok (.daload, 1) := by decide +kernel
theorem dX1_dry_68 : decode cX1_dry 68 = .ok (.aload_n 0, 1) := by decide +kernel
theorem dX1_dry_69 : decode cX1_dry 69 = .ok (.getfield 9, 3) := by decide +kernel
theorem dX1_dry_72 : decode cX1_dry 72 = .ok (.iload 12, 2) := by decide +kernel
theorem dX1_dry_74 : decode cX1_dry 74 = .ok (.iconst 1, 1) := by decide +kernel
theorem dX1_dry_75 : decode cX1_dry 75 = .ok (.iadd, 1) := by decide +kernel
theorem dX1_dry_76 : decode cX1_dry 76 = .ok (.daload, 1) := by decide +kernel
theorem dX1_dry_77 : decode cX1_dry 77 = .ok (.invokevirtual 55, 3) := by decide +kernel
theorem dX1_dry_80 : decode cX1_dry 80 = .ok (.goto 5, 3) := by decide +kernel
theorem dX1_dry_83 : decode cX1_dry 83 = .ok (.dload 8, 2) := by decide +kernel
theorem dX1_dry_85 : decode cX1_dry 85 = .ok (.dstore 13, 2) := by decide +kernel
theorem dX1_dry_87 : decode cX1_dry 87 = .ok (.aload_n 0, 1) := by decide +kernel
theorem dX1_dry_88 : decode cX1_dry 88 = .ok (.getfield 9, 3) := by decide +kernel
theorem dX1_dry_91 : decode cX1_dry 91 = .ok (.iload 12, 2) := by decide +kernel
theorem dX1_dry_93 : decode cX1_dry 93 = .ok (.aload_n 0, 1) := by decide +kernel
theorem dX1_dry_94 : decode cX1_dry 94 = .ok (.getfield 9, 3) := by decide +kernel
theorem dX1_dry_97 : decode cX1_dry 97 = .ok (.iload 12, 2) := by decide +kernel
theorem dX1_dry_99 : decode cX1_dry 99 = .ok (.daload, 1) := by decide +kernel
theorem dX1_dry_100 : decode cX1_dry 100 = .ok (.dload 10, 2) := by decide +kernel
theorem dX1_dry_102 : decode cX1_dry 102 = .ok (.dadd, 1) := by decide +kernel
theorem dX1_dry_103 : decode cX1_dry 103 = .ok (.dload 13, 2) := by decide +kernel
theorem dX1_dry_105 : decode cX1_dry 105 = .ok (.dsub, 1) := by decide +kernel
theorem dX1_dry_106 : decode cX1_dry 106 = .ok (.dastore, 1) := by decide +kernel
theorem dX1_dry_107 : decode cX1_dry 107 = .ok (.dload 13, 2) := by decide +kernel
theorem dX1_dry_109 : decode cX1_dry 109 = .ok (.dstore 10, 2) := by decide +kernel
theorem dX1_dry_111 : decode cX1_dry 111 = .ok (.iinc 12 1, 3) := by decide +kernel
theorem dX1_dry_114 : decode cX1_dry 114 = .ok (.goto (-68), 3) := by decide +kernel
theorem dX1_dry_117 : decode cX1_dry 117 = .ok (.dload 6, 2) := by decide +kernel
theorem dX1_dry_119 : decode cX1_dry 119 = .ok (.dload 8, 2) := by decide +kernel
theorem dX1_dry_121 : decode cX1_dry 121 = .ok (.dadd, 1) := by decide +kernel
theorem dX1_dry_122 : decode cX1_dry 122 = .ok (.aload_n 0, 1) := by decide +kernel
theorem dX1_dry_123 : decode cX1_dry 123 = .ok (.getfield 23, 3) := by decide +kernel
theorem dX1_dry_126 : decode cX1_dry 126 = .ok (.dmul, 1) := by decide +kernel
theorem dX1_dry_127 : decode cX1_dry 127 = .ok (.ldc2_w 59, 3) := by decide +kernel
theorem dX1_dry_130 : decode cX1_dry 130 = .ok (.dmul, 1) := by decide +kernel
theorem dX1_dry_131 : decode cX1_dry 131 = .ok (.dreturn, 1) := by decide +kernel
theorem dX1_faceFlow_0 : decode cX1_faceFlow 0 = .ok (.dload_n 3, 1) := by decide +kernel
theorem dX1_faceFlow_1 : decode cX1_faceFlow 1 = .ok (.dload_n 1, 1) := by decide +kernel
theorem dX1_faceFlow_2 : decode cX1_faceFlow 2 = .ok (.dload 5, 2) := by decide +kernel
theorem dX1_faceFlow_4 : decode cX1_faceFlow 4 = .ok (.dsub, 1) := by decide +kernel
theorem dX1_faceFlow_5 : decode cX1_faceFlow 5 = .ok (.dmul, 1) := by decide +kernel
theorem dX1_faceFlow_6 : decode cX1_faceFlow 6 = .ok (.ldc2_w 37, 3) := by decide +kernel
theorem dX1_faceFlow_9 : decode cX1_faceFlow 9 = .ok (.aload_n 0, 1) := by decide +kernel
theorem dX1_faceFlow_10 : decode cX1_faceFlow 10 = .ok (.getfield 23, 3) := by decide +kernel
theorem dX1_faceFlow_13 : decode cX1_faceFlow 13 = .ok (.dmul, 1) := by decide +kernel
theorem dX1_faceFlow_14 : decode cX1_faceFlow 14 = .ok (.ddiv, 1) := by decide +kernel
theorem dX1_faceFlow_15 : decode cX1_faceFlow 15 = .ok (.dreturn, 1) := by decide +kernel
theorem dX1_slopeFlow_0 : decode cX1_slopeFlow 0 = .ok (.aload_n 0, 1) := by decide +kernel
theorem dX1_slopeFlow_1 : decode cX1_slopeFlow 1 = .ok (.getfield 15, 3) := by decide +kernel
theorem dX1_slopeFlow_4 : decode cX1_slopeFlow 4 = .ok (.dload_n 1, 1) := by decide +kernel
theorem dX1_slopeFlow_5 : decode cX1_slopeFlow 5 = .ok (.dload_n 3, 1) := by decide +kernel
theorem dX1_slopeFlow_6 : decode cX1_slopeFlow 6 = .ok (.dadd, 1) := by decide +kernel
theorem dX1_slopeFlow_7 : decode cX1_slopeFlow 7 = .ok (.ldc2_w 61, 3) := by decide +kernel
theorem dX1_slopeFlow_10 : decode cX1_slopeFlow 10 = .ok (.ddiv, 1) := by decide +kernel
theorem dX1_slopeFlow_11 : decode cX1_slopeFlow 11 = .ok (.invokevirtual 45, 3) := by decide +kernel
theorem dX1_slopeFlow_14 : decode cX1_slopeFlow 14 = .ok (.dload_n 1, 1) := by decide +kernel
theorem dX1_slopeFlow_15 : decode cX1_slopeFlow 15 = .ok (.dload_n 3, 1) := by decide +kernel
theorem dX1_slopeFlow_16 : decode cX1_slopeFlow 16 = .ok (.dsub, 1) := by decide +kernel
theorem dX1_slopeFlow_17 : decode cX1_slopeFlow 17 = .ok (.dmul, 1) := by decide +kernel
theorem dX1_slopeFlow_18 : decode cX1_slopeFlow 18 = .ok (.aload_n 0, 1) := by decide +kernel
theorem dX1_slopeFlow_19 : decode cX1_slopeFlow 19 = .ok (.getfield 23, 3) := by decide +kernel
theorem dX1_slopeFlow_22 : decode cX1_slopeFlow 22 = .ok (.aload_n 0, 1) := by decide +kernel
theorem dX1_slopeFlow_23 : decode cX1_slopeFlow 23 = .ok (.getfield 23, 3) := by decide +kernel
theorem dX1_slopeFlow_26 : decode cX1_slopeFlow 26 = .ok (.dmul, 1) := by decide +kernel
theorem dX1_slopeFlow_27 : decode cX1_slopeFlow 27 = .ok (.ddiv, 1) := by decide +kernel
theorem dX1_slopeFlow_28 : decode cX1_slopeFlow 28 = .ok (.dreturn, 1) := by decide +kernel
theorem dX1_shrinkage_0 : decode cX1_shrinkage 0 = .ok (.ldc2_w 39, 3) := by decide +kernel
theorem dX1_shrinkage_3 : decode cX1_shrinkage 3 = .ok (.ldc2_w 63, 3) := by decide +kernel
theorem dX1_shrinkage_6 : decode cX1_shrinkage 6 = .ok (.dload_n 0, 1) := by decide +kernel
theorem dX1_shrinkage_7 : decode cX1_shrinkage 7 = .ok (.ldc2_w 63, 3) := by decide +kernel
theorem dX1_shrinkage_10 : decode cX1_shrinkage 10 = .ok (.dcmp .g, 1) := by decide +kernel
theorem dX1_shrinkage_11 : decode cX1_shrinkage 11 = .ok (.ifCond .ge 7, 3) := by decide +kernel
theorem dX1_shrinkage_14 : decode cX1_shrinkage 14 = .ok (.dload_n 0, 1) := by decide +kernel
theorem dX1_shrinkage_15 : decode cX1_shrinkage 15 = .ok (.goto 6, 3) := by decide +kernel
theorem dX1_shrinkage_18 : decode cX1_shrinkage 18 = .ok (.ldc2_w 63, 3) := by decide +kernel
theorem dX1_shrinkage_21 : decode cX1_shrinkage 21 = .ok (.dsub, 1) := by decide +kernel
theorem dX1_shrinkage_22 : decode cX1_shrinkage 22 = .ok (.dmul, 1) := by decide +kernel
theorem dX1_shrinkage_23 : decode cX1_shrinkage 23 = .ok (.dreturn, 1) := by decide +kernel
theorem dX1_meanShrinkage_0 : decode cX1_meanShrinkage 0 = .ok (.dconst 0, 1) := by decide +kernel
theorem dX1_meanShrinkage_1 : decode cX1_meanShrinkage 1 = .ok (.dstore_n 1, 1) := by decide +kernel
theorem dX1_meanShrinkage_2 : decode cX1_meanShrinkage 2 = .ok (.iconst 0, 1) := by decide +kernel
theorem dX1_meanShrinkage_3 : decode cX1_meanShrinkage 3 = .ok (.istore_n 3, 1) := by decide +kernel
theorem dX1_meanShrinkage_4 : decode cX1_meanShrinkage 4 = .ok (.iload_n 3, 1) := by decide +kernel
theorem dX1_meanShrinkage_5 : decode cX1_meanShrinkage 5 = .ok (.aload_n 0, 1) := by decide +kernel
theorem dX1_meanShrinkage_6 : decode cX1_meanShrinkage 6 = .ok (.getfield 9, 3) := by decide +kernel
theorem dX1_meanShrinkage_9 : decode cX1_meanShrinkage 9 = .ok (.arraylength, 1) := by decide +kernel
theorem dX1_meanShrinkage_10 : decode cX1_meanShrinkage 10 = .ok (.if_icmp .ge 21, 3) := by decide +kernel
theorem dX1_meanShrinkage_13 : decode cX1_meanShrinkage 13 = .ok (.dload_n 1, 1) := by decide +kernel
theorem dX1_meanShrinkage_14 : decode cX1_meanShrinkage 14 = .ok (.aload_n 0, 1) := by decide +kernel
theorem dX1_meanShrinkage_15 : decode cX1_meanShrinkage 15 = .ok (.getfield 9, 3) := by decide +kernel
theorem dX1_meanShrinkage_18 : decode cX1_meanShrinkage 18 = .ok (.iload_n 3, 1) := by decide +kernel
theorem dX1_meanShrinkage_19 : decode cX1_meanShrinkage 19 = .ok (.daload, 1) := by decide +kernel
theorem dX1_meanShrinkage_20 : decode cX1_meanShrinkage 20 = .ok (.invokestatic 65, 3) := by decide +kernel
theorem dX1_meanShrinkage_23 : decode cX1_meanShrinkage 23 = .ok (.dadd, 1) := by decide +kernel
theorem dX1_meanShrinkage_24 : decode cX1_meanShrinkage 24 = .ok (.dstore_n 1, 1) := by decide +kernel
theorem dX1_meanShrinkage_25 : decode cX1_meanShrinkage 25 = .ok (.iinc 3 1, 3) := by decide +kernel
theorem dX1_meanShrinkage_28 : decode cX1_meanShrinkage 28 = .ok (.goto (-24), 3) := by decide +kernel
theorem dX1_meanShrinkage_31 : decode cX1_meanShrinkage 31 = .ok (.dload_n 1, 1) := by decide +kernel
theorem dX1_meanShrinkage_32 : decode cX1_meanShrinkage 32 = .ok (.aload_n 0, 1) := by decide +kernel
theorem dX1_meanShrinkage_33 : decode cX1_meanShrinkage 33 = .ok (.getfield 9, 3) := by decide +kernel
theorem dX1_meanShrinkage_36 : decode cX1_meanShrinkage 36 = .ok (.arraylength, 1) := by decide +kernel
theorem dX1_meanShrinkage_37 : decode cX1_meanShrinkage 37 = .ok (.i2d, 1) := by decide +kernel
theorem dX1_meanShrinkage_38 : decode cX1_meanShrinkage 38 = .ok (.ddiv, 1) := by decide +kernel
theorem dX1_meanShrinkage_39 : decode cX1_meanShrinkage 39 = .ok (.dreturn, 1) := by decide +kernel
theorem dX1_greatestLoad_0 : decode cX1_greatestLoad 0 = .ok (.aload_n 0, 1) := by decide +kernel
theorem dX1_greatestLoad_1 : decode cX1_greatestLoad 1 = .ok (.invokevirtual 68, 3) := by decide +kernel
theorem dX1_greatestLoad_4 : decode cX1_greatestLoad 4 = .ok (.dstore_n 1, 1) := by decide +kernel
theorem dX1_greatestLoad_5 : decode cX1_greatestLoad 5 = .ok (.dconst 0, 1) := by decide +kernel
theorem dX1_greatestLoad_6 : decode cX1_greatestLoad 6 = .ok (.dstore_n 3, 1) := by decide +kernel
theorem dX1_greatestLoad_7 : decode cX1_greatestLoad 7 = .ok (.iconst 0, 1) := by decide +kernel
theorem dX1_greatestLoad_8 : decode cX1_greatestLoad 8 = .ok (.istore 5, 2) := by decide +kernel
theorem dX1_greatestLoad_10 : decode cX1_greatestLoad 10 = .ok (.iload 5, 2) := by decide +kernel
theorem dX1_greatestLoad_12 : decode cX1_greatestLoad 12 = .ok (.aload_n 0, 1) := by decide +kernel
theorem dX1_greatestLoad_13 : decode cX1_greatestLoad 13 = .ok (.getfield 9, 3) := by decide +kernel
theorem dX1_greatestLoad_16 : decode cX1_greatestLoad 16 = .ok (.arraylength, 1) := by decide +kernel
theorem dX1_greatestLoad_17 : decode cX1_greatestLoad 17 = .ok (.if_icmp .ge 50, 3) := by decide +kernel
theorem dX1_greatestLoad_20 : decode cX1_greatestLoad 20 = .ok (.aload_n 0, 1) := by decide +kernel
theorem dX1_greatestLoad_21 : decode cX1_greatestLoad 21 = .ok (.getfield 9, 3) := by decide +kernel
theorem dX1_greatestLoad_24 : decode cX1_greatestLoad 24 = .ok (.iload 5, 2) := by decide +kernel
theorem dX1_greatestLoad_26 : decode cX1_greatestLoad 26 = .ok (.daload, 1) := by decide +kernel
theorem dX1_greatestLoad_27 : decode cX1_greatestLoad 27 = .ok (.invokestatic 65, 3) := by decide +kernel
theorem dX1_greatestLoad_30 : decode cX1_greatestLoad 30 = .ok (.dload_n 1, 1) := by decide +kernel
theorem dX1_greatestLoad_31 : decode cX1_greatestLoad 31 = .ok (.dsub, 1) := by decide +kernel
theorem dX1_greatestLoad_32 : decode cX1_greatestLoad 32 = .ok (.dstore 6, 2) := by decide +kernel
theorem dX1_greatestLoad_34 : decode cX1_greatestLoad 34 = .ok (.dload 6, 2) := by decide +kernel
theorem dX1_greatestLoad_36 : decode cX1_greatestLoad 36 = .ok (.dconst 0, 1) := by decide +kernel
theorem dX1_greatestLoad_37 : decode cX1_greatestLoad 37 = .ok (.dcmp .g, 1) := by decide +kernel
theorem dX1_greatestLoad_38 : decode cX1_greatestLoad 38 = .ok (.ifCond .ge 9, 3) := by decide +kernel
theorem dX1_greatestLoad_41 : decode cX1_greatestLoad 41 = .ok (.dload 6, 2) := by decide +kernel
theorem dX1_greatestLoad_43 : decode cX1_greatestLoad 43 = .ok (.dneg, 1) := by decide +kernel
theorem dX1_greatestLoad_44 : decode cX1_greatestLoad 44 = .ok (.goto 5, 3) := by decide +kernel
theorem dX1_greatestLoad_47 : decode cX1_greatestLoad 47 = .ok (.dload 6, 2) := by decide +kernel
theorem dX1_greatestLoad_49 : decode cX1_greatestLoad 49 = .ok (.dstore 8, 2) := by decide +kernel
theorem dX1_greatestLoad_51 : decode cX1_greatestLoad 51 = .ok (.dload 8, 2) := by decide +kernel
theorem dX1_greatestLoad_53 : decode cX1_greatestLoad 53 = .ok (.dload_n 3, 1) := by decide +kernel
theorem dX1_greatestLoad_54 : decode cX1_greatestLoad 54 = .ok (.dcmp .l, 1) := by decide +kernel
theorem dX1_greatestLoad_55 : decode cX1_greatestLoad 55 = .ok (.ifCond .le 6, 3) := by decide +kernel
theorem dX1_greatestLoad_58 : decode cX1_greatestLoad 58 = .ok (.dload 8, 2) := by decide +kernel
theorem dX1_greatestLoad_60 : decode cX1_greatestLoad 60 = .ok (.dstore_n 3, 1) := by decide +kernel
theorem dX1_greatestLoad_61 : decode cX1_greatestLoad 61 = .ok (.iinc 5 1, 3) := by decide +kernel
theorem dX1_greatestLoad_64 : decode cX1_greatestLoad 64 = .ok (.goto (-54), 3) := by decide +kernel
theorem dX1_greatestLoad_67 : decode cX1_greatestLoad 67 = .ok (.dload_n 3, 1) := by decide +kernel
theorem dX1_greatestLoad_68 : decode cX1_greatestLoad 68 = .ok (.dreturn, 1) := by decide +kernel
theorem dX1_watchLoad_0 : decode cX1_watchLoad 0 = .ok (.aload_n 0, 1) := by decide +kernel
theorem dX1_watchLoad_1 : decode cX1_watchLoad 1 = .ok (.getfield 27, 3) := by decide +kernel
theorem dX1_watchLoad_4 : decode cX1_watchLoad 4 = .ok (.ifCond .eq 28, 3) := by decide +kernel
theorem dX1_watchLoad_7 : decode cX1_watchLoad 7 = .ok (.aload_n 0, 1) := by decide +kernel
theorem dX1_watchLoad_8 : decode cX1_watchLoad 8 = .ok (.getfield 30, 3) := by decide +kernel
theorem dX1_watchLoad_11 : decode cX1_watchLoad 11 = .ok (.iconst (-1), 1) := by decide +kernel
theorem dX1_watchLoad_12 : decode cX1_watchLoad 12 = .ok (.if_icmp .ne 20, 3) := by decide +kernel
theorem dX1_watchLoad_15 : decode cX1_watchLoad 15 = .ok (.aload_n 0, 1) := by decide +kernel
theorem dX1_watchLoad_16 : decode cX1_watchLoad 16 = .ok (.invokevirtual 71, 3) := by decide +kernel
theorem dX1_watchLoad_19 : decode cX1_watchLoad 19 = .ok (.aload_n 0, 1) := by decide +kernel
theorem dX1_watchLoad_20 : decode cX1_watchLoad 20 = .ok (.getfield 34, 3) := by decide +kernel
theorem dX1_watchLoad_23 : decode cX1_watchLoad 23 = .ok (.dcmp .l, 1) := by decide +kernel
theorem dX1_watchLoad_24 : decode cX1_watchLoad 24 = .ok (.ifCond .le 8, 3) := by decide +kernel
theorem dX1_watchLoad_27 : decode cX1_watchLoad 27 = .ok (.aload_n 0, 1) := by decide +kernel
theorem dX1_watchLoad_28 : decode cX1_watchLoad 28 = .ok (.iload_n 1, 1) := by decide +kernel
theorem dX1_watchLoad_29 : decode cX1_watchLoad 29 = .ok (.putfield 30, 3) := by decide +kernel
theorem dX1_watchLoad_32 : decode cX1_watchLoad 32 = .ok (.return_, 1) := by decide +kernel
theorem dX2_init_0 : decode cX2_init 0 = .ok (.aload_n 0, 1) := by decide +kernel
theorem dX2_init_1 : decode cX2_init 1 = .ok (.invokespecial 1, 3) := by decide +kernel
theorem dX2_init_4 : decode cX2_init 4 = .ok (.return_, 1) := by decide +kernel
theorem dX2_speedAt_0 : decode cX2_speedAt 0 = .ok (.aload_n 0, 1) := by decide +kernel
theorem dX2_speedAt_1 : decode cX2_speedAt 1 = .ok (.getfield 7, 3) := by decide +kernel
theorem dX2_speedAt_4 : decode cX2_speedAt 4 = .ok (.aload_n 0, 1) := by decide +kernel
theorem dX2_speedAt_5 : decode cX2_speedAt 5 = .ok (.getfield 13, 3) := by decide +kernel
theorem dX2_speedAt_8 : decode cX2_speedAt 8 = .ok (.dload_n 1, 1) := by decide +kernel
theorem dX2_speedAt_9 : decode cX2_speedAt 9 = .ok (.dmul, 1) := by decide +kernel
theorem dX2_speedAt_10 : decode cX2_speedAt 10 = .ok (.dadd, 1) := by decide +kernel
theorem dX2_speedAt_11 : decode cX2_speedAt 11 = .ok (.dreturn, 1) := by decide +kernel
theorem dX3_init_0 : decode cX3_init 0 = .ok (.aload_n 0, 1) := by decide +kernel
theorem dX3_init_1 : decode cX3_init 1 = .ok (.invokespecial 1, 3) := by decide +kernel
theorem dX3_init_4 : decode cX3_init 4 = .ok (.return_, 1) := by decide +kernel
theorem dX3_take_0 : decode cX3_take 0 = .ok (.aload_n 0, 1) := by decide +kernel
theorem dX3_take_1 : decode cX3_take 1 = .ok (.aload_n 0, 1) := by decide +kernel
theorem dX3_take_2 : decode cX3_take 2 = .ok (.getfield 7, 3) := by decide +kernel
theorem dX3_take_5 : decode cX3_take 5 = .ok (.dload_n 1, 1) := by decide +kernel
theorem dX3_take_6 : decode cX3_take 6 = .ok (.dadd, 1) := by decide +kernel
theorem dX3_take_7 : decode cX3_take 7 = .ok (.putfield 7, 3) := by decide +kernel
theorem dX3_take_10 : decode cX3_take 10 = .ok (.aload_n 0, 1) := by decide +kernel
theorem dX3_take_11 : decode cX3_take 11 = .ok (.getfield 7, 3) := by decide +kernel
theorem dX3_take_14 : decode cX3_take 14 = .ok (.d2l, 1) := by decide +kernel
theorem dX3_take_15 : decode cX3_take 15 = .ok (.lstore_n 3, 1) := by decide +kernel
theorem dX3_take_16 : decode cX3_take 16 = .ok (.aload_n 0, 1) := by decide +kernel
theorem dX3_take_17 : decode cX3_take 17 = .ok (.aload_n 0, 1) := by decide +kernel
theorem dX3_take_18 : decode cX3_take 18 = .ok (.getfield 7, 3) := by decide +kernel
theorem dX3_take_21 : decode cX3_take 21 = .ok (.lload_n 3, 1) := by decide +kernel
theorem dX3_take_22 : decode cX3_take 22 = .ok (.l2d, 1) := by decide +kernel
theorem dX3_take_23 : decode cX3_take 23 = .ok (.dsub, 1) := by decide +kernel
theorem dX3_take_24 : decode cX3_take 24 = .ok (.putfield 7, 3) := by decide +kernel
theorem dX3_take_27 : decode cX3_take 27 = .ok (.aload_n 0, 1) := by decide +kernel
theorem dX3_take_28 : decode cX3_take 28 = .ok (.aload_n 0, 1) := by decide +kernel
theorem dX3_take_29 : decode cX3_take 29 = .ok (.getfield 13, 3) := by decide +kernel
theorem dX3_take_32 : decode cX3_take 32 = .ok (.lload_n 3, 1) := by decide +kernel
theorem dX3_take_33 : decode cX3_take 33 = .ok (.ladd, 1) := by decide +kernel
theorem dX3_take_34 : decode cX3_take 34 = .ok (.putfield 13, 3) := by decide +kernel
theorem dX3_take_37 : decode cX3_take 37 = .ok (.return_, 1) := by decide +kernel
theorem dX4_init_0 : decode cX4_init 0 = .ok (.aload_n 0, 1) := by decide +kernel
theorem dX4_init_1 : decode cX4_init 1 = .ok (.invokespecial 3, 3) := by decide +kernel
theorem dX4_init_4 : decode cX4_init 4 = .ok (.aload_n 0, 1) := by decide +kernel
theorem dX4_init_5 : decode cX4_init 5 = .ok (.bipush 12, 2) := by decide +kernel
theorem dX4_init_7 : decode cX4_init 7 = .ok (.newarray .boolean, 2) := by decide +kernel
theorem dX4_init_9 : decode cX4_init 9 = .ok (.putfield 11, 3) := by decide +kernel
theorem dX4_init_12 : decode cX4_init 12 = .ok (.aload_n 0, 1) := by decide +kernel
theorem dX4_init_13 : decode cX4_init 13 = .ok (.bipush 12, 2) := by decide +kernel
theorem dX4_init_15 : decode cX4_init 15 = .ok (.newarray .int, 2) := by decide +kernel
theorem dX4_init_17 : decode cX4_init 17 = .ok (.putfield 15, 3) := by decide +kernel
theorem dX4_init_20 : decode cX4_init 20 = .ok (.aload_n 0, 1) := by decide +kernel
theorem dX4_init_21 : decode cX4_init 21 = .ok (.bipush 12, 2) := by decide +kernel
theorem dX4_init_23 : decode cX4_init 23 = .ok (.newarray .int, 2) := by decide +kernel
theorem dX4_init_25 : decode cX4_init 25 = .ok (.putfield 19, 3) := by decide +kernel
theorem dX4_init_28 : decode cX4_init 28 = .ok (.aload_n 0, 1) := by decide +kernel
theorem dX4_init_29 : decode cX4_init 29 = .ok (.bipush 12, 2) := by decide +kernel
theorem dX4_init_31 : decode cX4_init 31 = .ok (.newarray .int, 2) := by decide +kernel
theorem dX4_init_33 : decode cX4_init 33 = .ok (.putfield 22, 3) := by decide +kernel
theorem dX4_init_36 : decode cX4_init 36 = .ok (.return_, 1) := by decide +kernel
theorem dX4_readFrom_0 : decode cX4_readFrom 0 = .ok (.aload_n 0, 1) := by decide +kernel
theorem dX4_readFrom_1 : decode cX4_readFrom 1 = .ok (.aload_n 1, 1) := by decide +kernel
theorem dX4_readFrom_2 : decode cX4_readFrom 2 = .ok (.invokevirtual 25, 3) := by decide +kernel
theorem dX4_readFrom_5 : decode cX4_readFrom 5 = .ok (.istore_n 2, 1) := by decide +kernel
theorem dX4_readFrom_6 : decode cX4_readFrom 6 = .ok (.iload_n 2, 1) := by decide +kernel
theorem dX4_readFrom_7 : decode cX4_readFrom 7 = .ok (.iconst (-1), 1) := by decide +kernel
theorem dX4_readFrom_8 : decode cX4_readFrom 8 = .ok (.if_icmp .ne 12, 3) := by decide +kernel
theorem dX4_readFrom_11 : decode cX4_readFrom 11 = .ok (.iconst (-1), 1) := by decide +kernel
theorem dX4_readFrom_12 : decode cX4_readFrom 12 = .ok (.aload_n 1, 1) := by decide +kernel
theorem dX4_readFrom_13 : decode cX4_readFrom 13 = .ok (.getfield 29, 3) := by decide +kernel
theorem dX4_readFrom_16 : decode cX4_readFrom 16 = .ok (.isub, 1) := by decide +kernel
theorem dX4_readFrom_17 : decode cX4_readFrom 17 = .ok (.goto 4, 3) := by decide +kernel
theorem dX4_readFrom_20 : decode cX4_readFrom 20 = .ok (.iload_n 2, 1) := by decide +kernel
theorem dX4_readFrom_21 : decode cX4_readFrom 21 = .ok (.istore_n 3, 1) := by decide +kernel
theorem dX4_readFrom_22 : decode cX4_readFrom 22 = .ok (.aload_n 0, 1) := by decide +kernel
theorem dX4_readFrom_23 : decode cX4_readFrom 23 = .ok (.iload_n 2, 1) := by decide +kernel
theorem dX4_readFrom_24 : decode cX4_readFrom 24 = .ok (.iconst (-1), 1) := by decide +kernel
theorem dX4_readFrom_25 : decode cX4_readFrom 25 = .ok (.if_icmp .ne 7, 3) := by decide +kernel
theorem dX4_readFrom_28 : decode cX4_readFrom 28 = .ok (.iconst 0, 1) := by decide +kernel
theorem dX4_readFrom_29 : decode cX4_readFrom 29 = .ok (.goto 4, 3) := by decide +kernel
theorem dX4_readFrom_32 : decode cX4_readFrom 32 = .ok (.iload_n 2, 1) := by decide +kernel
theorem dX4_readFrom_33 : decode cX4_readFrom 33 = .ok (.putfield 35, 3) := by decide +kernel
theorem dX4_readFrom_36 : decode cX4_readFrom 36 = .ok (.aload_n 0, 1) := by decide +kernel
theorem dX4_readFrom_37 : decode cX4_readFrom 37 = .ok (.iconst 0, 1) := by decide +kernel
theorem dX4_readFrom_38 : decode cX4_readFrom 38 = .ok (.putfield 38, 3) := by decide +kernel
theorem dX4_readFrom_41 : decode cX4_readFrom 41 = .ok (.aload_n 1, 1) := by decide +kernel
theorem dX4_readFrom_42 : decode cX4_readFrom 42 = .ok (.invokevirtual 41, 3) := by decide +kernel
theorem dX4_readFrom_45 : decode cX4_readFrom 45 = .ok (.iload_n 3, 1) := by decide +kernel
theorem dX4_readFrom_46 : decode cX4_readFrom 46 = .ok (.ireturn, 1) := by decide +kernel
theorem dX4_readSteps_0 : decode cX4_readSteps 0 = .ok (.iconst 0, 1) := by decide +kernel
theorem dX4_readSteps_1 : decode cX4_readSteps 1 = .ok (.istore_n 2, 1) := by decide +kernel
theorem dX4_readSteps_2 : decode cX4_readSteps 2 = .ok (.iload_n 2, 1) := by decide +kernel
theorem dX4_readSteps_3 : decode cX4_readSteps 3 = .ok (.bipush 12, 2) := by decide +kernel
theorem dX4_readSteps_5 : decode cX4_readSteps 5 = .ok (.if_icmp .ge 46, 3) := by decide +kernel
theorem dX4_readSteps_8 : decode cX4_readSteps 8 = .ok (.iload_n 2, 1) := by decide +kernel
theorem dX4_readSteps_9 : decode cX4_readSteps 9 = .ok (.ifCond .le 14, 3) := by decide +kernel
theorem dX4_readSteps_12 : decode cX4_readSteps 12 = .ok (.aload_n 1, 1) := by decide +kernel
theorem dX4_readSteps_13 : decode cX4_readSteps 13 = .ok (.bipush 59, 2) := by decide +kernel
theorem dX4_readSteps_15 : decode cX4_readSteps 15 = .ok (.invokevirtual 44, 3) := by decide +kernel
theorem dX4_readSteps_18 : decode cX4_readSteps 18 = .ok (.ifCond .ne 5, 3) := by decide +kernel
theorem dX4_readSteps_21 : decode cX4_readSteps 21 = .ok (.iconst (-1), 1) := by decide +kernel
theorem dX4_readSteps_22 : decode cX4_readSteps 22 = .ok (.ireturn, 1) := by decide +kernel
theorem dX4_readSteps_23 : decode cX4_readSteps 23 = .ok (.aload_n 0, 1) := by decide +kernel
theorem dX4_readSteps_24 : decode cX4_readSteps 24 = .ok (.aload_n 1, 1) := by decide +kernel
theorem dX4_readSteps_25 : decode cX4_readSteps 25 = .ok (.iload_n 2, 1) := by decide +kernel
theorem dX4_readSteps_26 : decode cX4_readSteps 26 = .ok (.invokevirtual 48, 3) := by decide +kernel
theorem dX4_readSteps_29 : decode cX4_readSteps 29 = .ok (.ifCond .ne 5, 3) := by decide +kernel
theorem dX4_readSteps_32 : decode cX4_readSteps 32 = .ok (.iconst (-1), 1) := by decide +kernel
theorem dX4_readSteps_33 : decode cX4_readSteps 33 = .ok (.ireturn, 1) := by decide +kernel
theorem dX4_readSteps_34 : decode cX4_readSteps 34 = .ok (.aload_n 1, 1) := by decide +kernel
theorem dX4_readSteps_35 : decode cX4_readSteps 35 = .ok (.invokevirtual 52, 3) := by decide +kernel
theorem dX4_readSteps_38 : decode cX4_readSteps 38 = .ok (.ifCond .eq 7, 3) := by decide +kernel
theorem dX4_readSteps_41 : decode cX4_readSteps 41 = .ok (.iload_n 2, 1) := by decide +kernel
theorem dX4_readSteps_42 : decode cX4_readSteps 42 = .ok (.iconst 1, 1) := by decide +kernel
theorem dX4_readSteps_43 : decode cX4_readSteps 43 = .ok (.iadd, 1) := by decide +kernel
theorem dX4_readSteps_44 : decode cX4_readSteps 44 = .ok (.ireturn, 1) := by decide +kernel
theorem dX4_readSteps_45 : decode cX4_readSteps 45 = .ok (.iinc 2 1, 3) := by decide +kernel
theorem dX4_readSteps_48 : decode cX4_readSteps 48 = .ok (.goto (-46), 3) := by decide +kernel
theorem dX4_readSteps_51 : decode cX4_readSteps 51 = .ok (.iconst (-1), 1) := by decide +kernel
theorem dX4_readSteps_52 : decode cX4_readSteps 52 = .ok (.ireturn, 1) := by decide +kernel
theorem dX4_readStep_0 : decode cX4_readStep 0 = .ok (.aload_n 0, 1) := by decide +kernel
theorem dX4_readStep_1 : decode cX4_readStep 1 = .ok (.getfield 11, 3) := by decide +kernel
theorem dX4_readStep_4 : decode cX4_readStep 4 = .ok (.iload_n 2, 1) := by decide +kernel
theorem dX4_readStep_5 : decode cX4_readStep 5 = .ok (.aload_n 1, 1) := by decide +kernel
theorem dX4_readStep_6 : decode cX4_readStep 6 = .ok (.invokevirtual 56, 3) := by decide +kernel
theorem dX4_readStep_9 : decode cX4_readStep 9 = .ok (.bipush 104, 2) := by decide +kernel
theorem dX4_readStep_11 : decode cX4_readStep 11 = .ok (.if_icmp .ne 7, 3) := by decide +kernel
theorem dX4_readStep_14 : decode cX4_readStep 14 = .ok (.iconst 1, 1) := by decide +kernel
theorem dX4_readStep_15 : decode cX4_readStep 15 = .ok (.goto 4, 3) := by decide +kernel
theorem dX4_readStep_18 : decode cX4_readStep 18 = .ok (.iconst 0, 1) := by decide +kernel
theorem dX4_readStep_19 : decode cX4_readStep 19 = .ok (.bastore, 1) := by decide +kernel
theorem dX4_readStep_20 : decode cX4_readStep 20 = .ok (.aload_n 1, 1) := by decide +kernel
theorem dX4_readStep_21 : decode cX4_readStep 21 = .ok (.aload_n 0, 1) := by decide +kernel
theorem dX4_readStep_22 : decode cX4_readStep 22 = .ok (.getfield 11, 3) := by decide +kernel
theorem dX4_readStep_25 : decode cX4_readStep 25 = .ok (.iload_n 2, 1) := by decide +kernel
theorem dX4_readStep_26 : decode cX4_readStep 26 = .ok (.baload, 1) := by decide +kernel
theorem dX4_readStep_27 : decode cX4_readStep 27 = .ok (.ifCond .eq 8, 3) := by decide +kernel
theorem dX4_readStep_30 : decode cX4_readStep 30 = .ok (.bipush 104, 2) := by decide +kernel
theorem dX4_readStep_32 : decode cX4_readStep 32 = .ok (.goto 5, 3) := by decide +kernel
theorem dX4_readStep_35 : decode cX4_readStep 35 = .ok (.bipush 119, 2) := by decide +kernel
theorem dX4_readStep_37 : decode cX4_readStep 37 = .ok (.invokevirtual 44, 3) := by decide +kernel
theorem dX4_readStep_40 : decode cX4_readStep 40 = .ok (.ifCond .ne 5, 3) := by decide +kernel
theorem dX4_readStep_43 : decode cX4_readStep 43 = .ok (.iconst 0, 1) := by decide +kernel
theorem dX4_readStep_44 : decode cX4_readStep 44 = .ok (.ireturn, 1) := by decide +kernel
theorem dX4_readStep_45 : decode cX4_readStep 45 = .ok (.aload_n 0, 1) := by decide +kernel
theorem dX4_readStep_46 : decode cX4_readStep 46 = .ok (.getfield 15, 3) := by decide +kernel
theorem dX4_readStep_49 : decode cX4_readStep 49 = .ok (.iload_n 2, 1) := by decide +kernel
theorem dX4_readStep_50 : decode cX4_readStep 50 = .ok (.aload_n 1, 1) := by decide +kernel
theorem dX4_readStep_51 : decode cX4_readStep 51 = .ok (.iconst 0, 1) := by decide +kernel
theorem dX4_readStep_52 : decode cX4_readStep 52 = .ok (.sipush 999, 3) := by decide +kernel
theorem dX4_readStep_55 : decode cX4_readStep 55 = .ok (.invokevirtual 60, 3) := by decide +kernel
theorem dX4_readStep_58 : decode cX4_readStep 58 = .ok (.iastore, 1) := by decide +kernel
theorem dX4_readStep_59 : decode cX4_readStep 59 = .ok (.aload_n 0, 1) := by decide +kernel
theorem dX4_readStep_60 : decode cX4_readStep 60 = .ok (.getfield 15, 3) := by decide +kernel
theorem dX4_readStep_63 : decode cX4_readStep 63 = .ok (.iload_n 2, 1) := by decide +kernel
theorem dX4_readStep_64 : decode cX4_readStep 64 = .ok (.iaload, 1) := by decide +kernel
theorem dX4_readStep_65 : decode cX4_readStep 65 = .ok (.iconst (-1), 1) := by decide +kernel
theorem dX4_readStep_66 : decode cX4_readStep 66 = .ok (.if_icmp .eq 12, 3) := by decide +kernel
theorem dX4_readStep_69 : decode cX4_readStep 69 = .ok (.aload_n 1, 1) := by decide +kernel
theorem dX4_readStep_70 : decode cX4_readStep 70 = .ok (.bipush 58, 2) := by decide +kernel
theorem dX4_readStep_72 : decode cX4_readStep 72 = .ok (.invokevirtual 44, 3) := by decide +kernel
theorem dX4_readStep_75 : decode cX4_readStep 75 = .ok (.ifCond .ne 5, 3) := by decide +kernel
theorem dX4_readStep_78 : decode cX4_readStep 78 = .ok (.iconst 0, 1) := by decide +kernel
theorem dX4_readStep_79 : decode cX4_readStep 79 = .ok (.ireturn, 1) := by decide +kernel
theorem dX4_readStep_80 : decode cX4_readStep 80 = .ok (.aload_n 0, 1) := by decide +kernel
theorem dX4_readStep_81 : decode cX4_readStep 81 = .ok (.getfield 19, 3) := by decide +kernel
theorem dX4_readStep_84 : decode cX4_readStep 84 = .ok (.iload_n 2, 1) := by decide +kernel
theorem dX4_readStep_85 : decode cX4_readStep 85 = .ok (.aload_n 1, 1) := by decide +kernel
theorem dX4_readStep_86 : decode cX4_readStep 86 = .ok (.sipush 250, 3) := by decide +kernel
theorem dX4_readStep_89 : decode cX4_readStep 89 = .ok (.sipush 400, 3) := by decide +kernel
theorem dX4_readStep_92 : decode cX4_readStep 92 = .ok (.invokevirtual 60, 3) := by decide +kernel
theorem dX4_readStep_95 : decode cX4_readStep 95 = .ok (.iastore, 1) := by decide +kernel
theorem dX4_readStep_96 : decode cX4_readStep 96 = .ok (.aload_n 0, 1) := by decide +kernel
theorem dX4_readStep_97 : decode cX4_readStep 97 = .ok (.getfield 19, 3) := by decide +kernel
theorem dX4_readStep_100 : decode cX4_readStep 100 = .ok (.iload_n 2, 1) := by decide +kernel
theorem dX4_readStep_101 : decode cX4_readStep 101 = .ok (.iaload, 1) := by decide +kernel
theorem dX4_readStep_102 : decode cX4_readStep 102 = .ok (.iconst (-1), 1) := by decide +kernel
theorem dX4_readStep_103 : decode cX4_readStep 103 = .ok (.if_icmp .eq 12, 3) := by decide +kernel
theorem dX4_readStep_106 : decode cX4_readStep 106 = .ok (.aload_n 1, 1) := by decide +kernel
theorem dX4_readStep_107 : decode cX4_readStep 107 = .ok (.bipush 44, 2) := by decide +kernel
theorem dX4_readStep_109 : decode cX4_readStep 109 = .ok (.invokevirtual 44, 3) := by decide +kernel
theorem dX4_readStep_112 : decode cX4_readStep 112 = .ok (.ifCond .ne 5, 3) := by decide +kernel
theorem dX4_readStep_115 : decode cX4_readStep 115 = .ok (.iconst 0, 1) := by decide +kernel
theorem dX4_readStep_116 : decode cX4_readStep 116 = .ok (.ireturn, 1) := by decide +kernel
theorem dX4_readStep_117 : decode cX4_readStep 117 = .ok (.aload_n 0, 1) := by decide +kernel
theorem dX4_readStep_118 : decode cX4_readStep 118 = .ok (.getfield 22, 3) := by decide +kernel
theorem dX4_readStep_121 : decode cX4_readStep 121 = .ok (.iload_n 2, 1) := by decide +kernel
theorem dX4_readStep_122 : decode cX4_readStep 122 = .ok (.aload_n 1, 1) := by decide +kernel
theorem dX4_readStep_123 : decode cX4_readStep 123 = .ok (.iconst 0, 1) := by decide +kernel
theorem dX4_readStep_124 : decode cX4_readStep 124 = .ok (.bipush 100, 2) := by decide +kernel
theorem dX4_readStep_126 : decode cX4_readStep 126 = .ok (.invokevirtual 60, 3) := by decide +kernel
theorem dX4_readStep_129 : decode cX4_readStep 129 = .ok (.iastore, 1) := by decide +kernel
theorem dX4_readStep_130 : decode cX4_readStep 130 = .ok (.aload_n 0, 1) := by decide +kernel
theorem dX4_readStep_131 : decode cX4_readStep 131 = .ok (.getfield 22, 3) := by decide +kernel
theorem dX4_readStep_134 : decode cX4_readStep 134 = .ok (.iload_n 2, 1) := by decide +kernel
theorem dX4_readStep_135 : decode cX4_readStep 135 = .ok (.iaload, 1) := by decide +kernel
theorem dX4_readStep_136 : decode cX4_readStep 136 = .ok (.iconst (-1), 1) := by decide +kernel
theorem dX4_readStep_137 : decode cX4_readStep 137 = .ok (.if_icmp .eq 7, 3) := by decide +kernel
theorem dX4_readStep_140 : decode cX4_readStep 140 = .ok (.iconst 1, 1) := by decide +kernel
theorem dX4_readStep_141 : decode cX4_readStep 141 = .ok (.goto 4, 3) := by decide +kernel
theorem dX4_readStep_144 : decode cX4_readStep 144 = .ok (.iconst 0, 1) := by decide +kernel
theorem dX4_readStep_145 : decode cX4_readStep 145 = .ok (.ireturn, 1) := by decide +kernel
theorem dX5_init_0 : decode cX5_init 0 = .ok (.aload_n 0, 1) := by decide +kernel
theorem dX5_init_1 : decode cX5_init 1 = .ok (.invokespecial 3, 3) := by decide +kernel
theorem dX5_init_4 : decode cX5_init 4 = .ok (.aload_n 0, 1) := by decide +kernel
theorem dX5_init_5 : decode cX5_init 5 = .ok (.sipush 200, 3) := by decide +kernel
theorem dX5_init_8 : decode cX5_init 8 = .ok (.newarray .char, 2) := by decide +kernel
theorem dX5_init_10 : decode cX5_init 10 = .ok (.putfield 11, 3) := by decide +kernel
theorem dX5_init_13 : decode cX5_init 13 = .ok (.return_, 1) := by decide +kernel
theorem dX5_append_0 : decode cX5_append 0 = .ok (.aload_n 0, 1) := by decide +kernel
theorem dX5_append_1 : decode cX5_append 1 = .ok (.getfield 15, 3) := by decide +kernel
theorem dX5_append_4 : decode cX5_append 4 = .ok (.aload_n 0, 1) := by decide +kernel
theorem dX5_append_5 : decode cX5_append 5 = .ok (.getfield 11, 3) := by decide +kernel
theorem dX5_append_8 : decode cX5_append 8 = .ok (.arraylength, 1) := by decide +kernel
theorem dX5_append_9 : decode cX5_append 9 = .ok (.if_icmp .ge 15, 3) := by decide +kernel
theorem dX5_append_12 : decode cX5_append 12 = .ok (.iload_n 1, 1) := by decide +kernel
theorem dX5_append_13 : decode cX5_append 13 = .ok (.bipush 32, 2) := by decide +kernel
theorem dX5_append_15 : decode cX5_append 15 = .ok (.if_icmp .lt 9, 3) := by decide +kernel
theorem dX5_append_18 : decode cX5_append 18 = .ok (.iload_n 1, 1) := by decide +kernel
theorem dX5_append_19 : decode cX5_append 19 = .ok (.bipush 126, 2) := by decide +kernel
theorem dX5_append_21 : decode cX5_append 21 = .ok (.if_icmp .le 5, 3) := by decide +kernel
theorem dX5_append_24 : decode cX5_append 24 = .ok (.iconst 0, 1) := by decide +kernel
theorem dX5_append_25 : decode cX5_append 25 = .ok (.ireturn, 1) := by decide +kernel
theorem dX5_append_26 : decode cX5_append 26 = .ok (.aload_n 0, 1) := by decide +kernel
theorem dX5_append_27 : decode cX5_append 27 = .ok (.getfield 11, 3) := by decide +kernel
theorem dX5_append_30 : decode cX5_append 30 = .ok (.aload_n 0, 1) := by decide +kernel
theorem dX5_append_31 : decode cX5_append 31 = .ok (.getfield 15, 3) := by decide +kernel
theorem dX5_append_34 : decode cX5_append 34 = .ok (.iload_n 1, 1) := by decide +kernel
theorem dX5_append_35 : decode cX5_append 35 = .ok (.i2c, 1) := by decide +kernel
theorem dX5_append_36 : decode cX5_append 36 = .ok (.castore, 1) := by decide +kernel
theorem dX5_append_37 : decode cX5_append 37 = .ok (.aload_n 0, 1) := by decide +kernel
theorem dX5_append_38 : decode cX5_append 38 = .ok (.dup, 1) := by decide +kernel
theorem dX5_append_39 : decode cX5_append 39 = .ok (.getfield 15, 3) := by decide +kernel
theorem dX5_append_42 : decode cX5_append 42 = .ok (.iconst 1, 1) := by decide +kernel
theorem dX5_append_43 : decode cX5_append 43 = .ok (.iadd, 1) := by decide +kernel
theorem dX5_append_44 : decode cX5_append 44 = .ok (.putfield 15, 3) := by decide +kernel
theorem dX5_append_47 : decode cX5_append 47 = .ok (.iconst 1, 1) := by decide +kernel
theorem dX5_append_48 : decode cX5_append 48 = .ok (.ireturn, 1) := by decide +kernel
theorem dX5_empty_0 : decode cX5_empty 0 = .ok (.aload_n 0, 1) := by decide +kernel
theorem dX5_empty_1 : decode cX5_empty 1 = .ok (.iconst 0, 1) := by decide +kernel
theorem dX5_empty_2 : decode cX5_empty 2 = .ok (.putfield 15, 3) := by decide +kernel
theorem dX5_empty_5 : decode cX5_empty 5 = .ok (.aload_n 0, 1) := by decide +kernel
theorem dX5_empty_6 : decode cX5_empty 6 = .ok (.iconst 0, 1) := by decide +kernel
theorem dX5_empty_7 : decode cX5_empty 7 = .ok (.putfield 19, 3) := by decide +kernel
theorem dX5_empty_10 : decode cX5_empty 10 = .ok (.return_, 1) := by decide +kernel
theorem dX5_isAtEnd_0 : decode cX5_isAtEnd 0 = .ok (.aload_n 0, 1) := by decide +kernel
theorem dX5_isAtEnd_1 : decode cX5_isAtEnd 1 = .ok (.getfield 19, 3) := by decide +kernel
theorem dX5_isAtEnd_4 : decode cX5_isAtEnd 4 = .ok (.aload_n 0, 1) := by decide +kernel
theorem dX5_isAtEnd_5 : decode cX5_isAtEnd 5 = .ok (.getfield 15, 3) := by decide +kernel
theorem dX5_isAtEnd_8 : decode cX5_isAtEnd 8 = .ok (.if_icmp .lt 7, 3) := by decide +kernel
theorem dX5_isAtEnd_11 : decode cX5_isAtEnd 11 = .ok (.iconst 1, 1) := by decide +kernel
theorem dX5_isAtEnd_12 : decode cX5_isAtEnd 12 = .ok (.goto 4, 3) := by decide +kernel
theorem dX5_isAtEnd_15 : decode cX5_isAtEnd 15 = .ok (.iconst 0, 1) := by decide +kernel
theorem dX5_isAtEnd_16 : decode cX5_isAtEnd 16 = .ok (.ireturn, 1) := by decide +kernel
theorem dX5_next_0 : decode cX5_next 0 = .ok (.aload_n 0, 1) := by decide +kernel
theorem dX5_next_1 : decode cX5_next 1 = .ok (.invokevirtual 22, 3) := by decide +kernel
theorem dX5_next_4 : decode cX5_next 4 = .ok (.ifCond .eq 7, 3) := by decide +kernel
theorem dX5_next_7 : decode cX5_next 7 = .ok (.iconst 0, 1) := by decide +kernel
theorem dX5_next_8 : decode cX5_next 8 = .ok (.goto 12, 3) := by decide +kernel
theorem dX5_next_11 : decode cX5_next 11 = .ok (.aload_n 0, 1) := by decide +kernel
theorem dX5_next_12 : decode cX5_next 12 = .ok (.getfield 11, 3) := by decide +kernel
theorem dX5_next_15 : decode cX5_next 15 = .ok (.aload_n 0, 1) := by decide +kernel
theorem dX5_next_16 : decode cX5_next 16 = .ok (.getfield 19, 3) := by decide +kernel
theorem dX5_next_19 : decode cX5_next 19 = .ok (.caload, 1) := by decide +kernel
theorem dX5_next_20 : decode cX5_next 20 = .ok (.ireturn, 1) := by decide +kernel
theorem dX5_isAtDigit_0 : decode cX5_isAtDigit 0 = .ok (.aload_n 0, 1) := by decide +kernel
theorem dX5_isAtDigit_1 : decode cX5_isAtDigit 1 = .ok (.invokevirtual 26, 3) := by decide +kernel
theorem dX5_isAtDigit_4 : decode cX5_isAtDigit 4 = .ok (.bipush 48, 2) := by decide +kernel
theorem dX5_isAtDigit_6 : decode cX5_isAtDigit 6 = .ok (.if_icmp .lt 16, 3) := by decide +kernel
theorem dX5_isAtDigit_9 : decode cX5_isAtDigit 9 = .ok (.aload_n 0, 1) := by decide +kernel
theorem dX5_isAtDigit_10 : decode cX5_isAtDigit 10 = .ok (.invokevirtual 26, 3) := by decide +kernel
theorem dX5_isAtDigit_13 : decode cX5_isAtDigit 13 = .ok (.bipush 57, 2) := by decide +kernel
theorem dX5_isAtDigit_15 : decode cX5_isAtDigit 15 = .ok (.if_icmp .gt 7, 3) := by decide +kernel
theorem dX5_isAtDigit_18 : decode cX5_isAtDigit 18 = .ok (.iconst 1, 1) := by decide +kernel
theorem dX5_isAtDigit_19 : decode cX5_isAtDigit 19 = .ok (.goto 4, 3) := by decide +kernel
theorem dX5_isAtDigit_22 : decode cX5_isAtDigit 22 = .ok (.iconst 0, 1) := by decide +kernel
theorem dX5_isAtDigit_23 : decode cX5_isAtDigit 23 = .ok (.ireturn, 1) := by decide +kernel
theorem dX5_pass_0 : decode cX5_pass 0 = .ok (.aload_n 0, 1) := by decide +kernel
theorem dX5_pass_1 : decode cX5_pass 1 = .ok (.invokevirtual 26, 3) := by decide +kernel
theorem dX5_pass_4 : decode cX5_pass 4 = .ok (.iload_n 1, 1) := by decide +kernel
theorem dX5_pass_5 : decode cX5_pass 5 = .ok (.if_icmp .eq 5, 3) := by decide +kernel
theorem dX5_pass_8 : decode cX5_pass 8 = .ok (.iconst 0, 1) := by decide +kernel
theorem dX5_pass_9 : decode cX5_pass 9 = .ok (.ireturn, 1) := by decide +kernel
theorem dX5_pass_10 : decode cX5_pass 10 = .ok (.aload_n 0, 1) := by decide +kernel
theorem dX5_pass_11 : decode cX5_pass 11 = .ok (.dup, 1) := by decide +kernel
theorem dX5_pass_12 : decode cX5_pass 12 = .ok (.getfield 19, 3) := by decide +kernel
theorem dX5_pass_15 : decode cX5_pass 15 = .ok (.iconst 1, 1) := by decide +kernel
theorem dX5_pass_16 : decode cX5_pass 16 = .ok (.iadd, 1) := by decide +kernel
theorem dX5_pass_17 : decode cX5_pass 17 = .ok (.putfield 19, 3) := by decide +kernel
theorem dX5_pass_20 : decode cX5_pass 20 = .ok (.iconst 1, 1) := by decide +kernel
theorem dX5_pass_21 : decode cX5_pass 21 = .ok (.ireturn, 1) := by decide +kernel
theorem dX5_readNumber_0 : decode cX5_readNumber 0 = .ok (.aload_n 0, 1) := by decide +kernel
theorem dX5_readNumber_1 : decode cX5_readNumber 1 = .ok (.getfield 19, 3) := by decide +kernel
theorem dX5_readNumber_4 : decode cX5_readNumber 4 = .ok (.istore_n 3, 1) := by decide +kernel
theorem dX5_readNumber_5 : decode cX5_readNumber 5 = .ok (.iconst 0, 1) := by decide +kernel
theorem dX5_readNumber_6 : decode cX5_readNumber 6 = .ok (.istore 4, 2) := by decide +kernel
theorem dX5_readNumber_8 : decode cX5_readNumber 8 = .ok (.iconst 0, 1) := by decide +kernel
theorem dX5_readNumber_9 : decode cX5_readNumber 9 = .ok (.istore 5, 2) := by decide +kernel
theorem dX5_readNumber_11 : decode cX5_readNumber 11 = .ok (.iload 5, 2) := by decide +kernel
theorem dX5_readNumber_13 : decode cX5_readNumber 13 = .ok (.iconst 3, 1) := by decide +kernel
theorem dX5_readNumber_14 : decode cX5_readNumber 14 = .ok (.if_icmp .ge 41, 3) := by decide +kernel
theorem dX5_readNumber_17 : decode cX5_readNumber 17 = .ok (.aload_n 0, 1) := by decide +kernel
theorem dX5_readNumber_18 : decode cX5_readNumber 18 = .ok (.invokevirtual 30, 3) := by decide +kernel
theorem dX5_readNumber_21 : decode cX5_readNumber 21 = .ok (.ifCond .eq 34, 3) := by decide +kernel
theorem dX5_readNumber_24 : decode cX5_readNumber 24 = .ok (.iload 4, 2) := by decide +kernel
theorem dX5_readNumber_26 : decode cX5_readNumber 26 = .ok (.bipush 10, 2) := by decide +kernel
theorem dX5_readNumber_28 : decode cX5_readNumber 28 = .ok (.imul, 1) := by decide +kernel
theorem dX5_readNumber_29 : decode cX5_readNumber 29 = .ok (.aload_n 0, 1) := by decide +kernel
theorem dX5_readNumber_30 : decode cX5_readNumber 30 = .ok (.invokevirtual 26, 3) := by decide +kernel
theorem dX5_readNumber_33 : decode cX5_readNumber 33 = .ok (.bipush 48, 2) := by decide +kernel
theorem dX5_readNumber_35 : decode cX5_readNumber 35 = .ok (.isub, 1) := by decide +kernel
theorem dX5_readNumber_36 : decode cX5_readNumber 36 = .ok (.iadd, 1) := by decide +kernel
theorem dX5_readNumber_37 : decode cX5_readNumber 37 = .ok (.istore 4, 2) := by decide +kernel
theorem dX5_readNumber_39 : decode cX5_readNumber 39 = .ok (.aload_n 0, 1) := by decide +kernel
theorem dX5_readNumber_40 : decode cX5_readNumber 40 = .ok (.dup, 1) := by decide +kernel
theorem dX5_readNumber_41 : decode cX5_readNumber 41 = .ok (.getfield 19, 3) := by decide +kernel
theorem dX5_readNumber_44 : decode cX5_readNumber 44 = .ok (.iconst 1, 1) := by decide +kernel
theorem dX5_readNumber_45 : decode cX5_readNumber 45 = .ok (.iadd, 1) := by decide +kernel
theorem dX5_readNumber_46 : decode cX5_readNumber 46 = .ok (.putfield 19, 3) := by decide +kernel
theorem dX5_readNumber_49 : decode cX5_readNumber 49 = .ok (.iinc 5 1, 3) := by decide +kernel
theorem dX5_readNumber_52 : decode cX5_readNumber 52 = .ok (.goto (-41), 3) := by decide +kernel
theorem dX5_readNumber_55 : decode cX5_readNumber 55 = .ok (.aload_n 0, 1) := by decide +kernel
theorem dX5_readNumber_56 : decode cX5_readNumber 56 = .ok (.getfield 19, 3) := by decide +kernel
theorem dX5_readNumber_59 : decode cX5_readNumber 59 = .ok (.iload_n 3, 1) := by decide +kernel
theorem dX5_readNumber_60 : decode cX5_readNumber 60 = .ok (.if_icmp .ne 5, 3) := by decide +kernel
theorem dX5_readNumber_63 : decode cX5_readNumber 63 = .ok (.iconst (-1), 1) := by decide +kernel
theorem dX5_readNumber_64 : decode cX5_readNumber 64 = .ok (.ireturn, 1) := by decide +kernel
theorem dX5_readNumber_65 : decode cX5_readNumber 65 = .ok (.iload 4, 2) := by decide +kernel
theorem dX5_readNumber_67 : decode cX5_readNumber 67 = .ok (.iload_n 1, 1) := by decide +kernel
theorem dX5_readNumber_68 : decode cX5_readNumber 68 = .ok (.if_icmp .lt 9, 3) := by decide +kernel
theorem dX5_readNumber_71 : decode cX5_readNumber 71 = .ok (.iload 4, 2) := by decide +kernel
theorem dX5_readNumber_73 : decode cX5_readNumber 73 = .ok (.iload_n 2, 1) := by decide +kernel
theorem dX5_readNumber_74 : decode cX5_readNumber 74 = .ok (.if_icmp .le 10, 3) := by decide +kernel
theorem dX5_readNumber_77 : decode cX5_readNumber 77 = .ok (.aload_n 0, 1) := by decide +kernel
theorem dX5_readNumber_78 : decode cX5_readNumber 78 = .ok (.iload_n 3, 1) := by decide +kernel
theorem dX5_readNumber_79 : decode cX5_readNumber 79 = .ok (.putfield 19, 3) := by decide +kernel
theorem dX5_readNumber_82 : decode cX5_readNumber 82 = .ok (.iconst (-1), 1) := by decide +kernel
theorem dX5_readNumber_83 : decode cX5_readNumber 83 = .ok (.ireturn, 1) := by decide +kernel
theorem dX5_readNumber_84 : decode cX5_readNumber 84 = .ok (.iload 4, 2) := by decide +kernel
theorem dX5_readNumber_86 : decode cX5_readNumber 86 = .ok (.ireturn, 1) := by decide +kernel
theorem dX6_init_0 : decode cX6_init 0 = .ok (.aload_n 0, 1) := by decide +kernel
theorem dX6_init_1 : decode cX6_init 1 = .ok (.invokespecial 1, 3) := by decide +kernel
theorem dX6_init_4 : decode cX6_init 4 = .ok (.aload_n 0, 1) := by decide +kernel
theorem dX6_init_5 : decode cX6_init 5 = .ok (.iconst 1, 1) := by decide +kernel
theorem dX6_init_6 : decode cX6_init 6 = .ok (.bipush 16, 2) := by decide +kernel
theorem dX6_init_8 : decode cX6_init 8 = .ok (.iload_n 1, 1) := by decide +kernel
theorem dX6_init_9 : decode cX6_init 9 = .ok (.invokestatic 9, 3) := by decide +kernel
theorem dX6_init_12 : decode cX6_init 12 = .ok (.invokestatic 15, 3) := by decide +kernel
theorem dX6_init_15 : decode cX6_init 15 = .ok (.putfield 18, 3) := by decide +kernel
theorem dX6_init_18 : decode cX6_init 18 = .ok (.aload_n 0, 1) := by decide +kernel
theorem dX6_init_19 : decode cX6_init 19 = .ok (.iconst 4, 1) := by decide +kernel
theorem dX6_init_20 : decode cX6_init 20 = .ok (.anewarray 22, 3) := by decide +kernel
theorem dX6_init_23 : decode cX6_init 23 = .ok (.putfield 24, 3) := by decide +kernel
theorem dX6_init_26 : decode cX6_init 26 = .ok (.iconst 0, 1) := by decide +kernel
theorem dX6_init_27 : decode cX6_init 27 = .ok (.istore_n 3, 1) := by decide +kernel
theorem dX6_init_28 : decode cX6_init 28 = .ok (.iload_n 3, 1) := by decide +kernel
theorem dX6_init_29 : decode cX6_init 29 = .ok (.aload_n 0, 1) := by decide +kernel
theorem dX6_init_30 : decode cX6_init 30 = .ok (.getfield 24, 3) := by decide +kernel
theorem dX6_init_33 : decode cX6_init 33 = .ok (.arraylength, 1) := by decide +kernel
theorem dX6_init_34 : decode cX6_init 34 = .ok (.if_icmp .ge 22, 3) := by decide +kernel
theorem dX6_init_37 : decode cX6_init 37 = .ok (.aload_n 0, 1) := by decide +kernel
theorem dX6_init_38 : decode cX6_init 38 = .ok (.getfield 24, 3) := by decide +kernel
theorem dX6_init_41 : decode cX6_init 41 = .ok (.iload_n 3, 1) := by decide +kernel
theorem dX6_init_42 : decode cX6_init 42 = .ok (.new 22, 3) := by decide +kernel
theorem dX6_init_45 : decode cX6_init 45 = .ok (.dup, 1) := by decide +kernel
theorem dX6_init_46 : decode cX6_init 46 = .ok (.invokespecial 28, 3) := by decide +kernel
theorem dX6_init_49 : decode cX6_init 49 = .ok (.aastore, 1) := by decide +kernel
theorem dX6_init_50 : decode cX6_init 50 = .ok (.iinc 3 1, 3) := by decide +kernel
theorem dX6_init_53 : decode cX6_init 53 = .ok (.goto (-25), 3) := by decide +kernel
theorem dX6_init_56 : decode cX6_init 56 = .ok (.aload_n 0, 1) := by decide +kernel
theorem dX6_init_57 : decode cX6_init 57 = .ok (.iconst 1, 1) := by decide +kernel
theorem dX6_init_58 : decode cX6_init 58 = .ok (.bipush 8, 2) := by decide +kernel
theorem dX6_init_60 : decode cX6_init 60 = .ok (.iload_n 2, 1) := by decide +kernel
theorem dX6_init_61 : decode cX6_init 61 = .ok (.invokestatic 9, 3) := by decide +kernel
theorem dX6_init_64 : decode cX6_init 64 = .ok (.invokestatic 15, 3) := by decide +kernel
theorem dX6_init_67 : decode cX6_init 67 = .ok (.anewarray 29, 3) := by decide +kernel
theorem dX6_init_70 : decode cX6_init 70 = .ok (.putfield 31, 3) := by decide +kernel
theorem dX6_init_73 : decode cX6_init 73 = .ok (.iconst 0, 1) := by decide +kernel
theorem dX6_init_74 : decode cX6_init 74 = .ok (.istore_n 3, 1) := by decide +kernel
theorem dX6_init_75 : decode cX6_init 75 = .ok (.iload_n 3, 1) := by decide +kernel
theorem dX6_init_76 : decode cX6_init 76 = .ok (.aload_n 0, 1) := by decide +kernel
theorem dX6_init_77 : decode cX6_init 77 = .ok (.getfield 31, 3) := by decide +kernel
theorem dX6_init_80 : decode cX6_init 80 = .ok (.arraylength, 1) := by decide +kernel
theorem dX6_init_81 : decode cX6_init 81 = .ok (.if_icmp .ge 32, 3) := by decide +kernel
theorem dX6_init_84 : decode cX6_init 84 = .ok (.aload_n 0, 1) := by decide +kernel
theorem dX6_init_85 : decode cX6_init 85 = .ok (.getfield 31, 3) := by decide +kernel
theorem dX6_init_88 : decode cX6_init 88 = .ok (.iload_n 3, 1) := by decide +kernel
theorem dX6_init_89 : decode cX6_init 89 = .ok (.new 29, 3) := by decide +kernel
theorem dX6_init_92 : decode cX6_init 92 = .ok (.dup, 1) := by decide +kernel
theorem dX6_init_93 : decode cX6_init 93 = .ok (.aload_n 0, 1) := by decide +kernel
theorem dX6_init_94 : decode cX6_init 94 = .ok (.getfield 18, 3) := by decide +kernel
theorem dX6_init_97 : decode cX6_init 97 = .ok (.aload_n 0, 1) := by decide +kernel
theorem dX6_init_98 : decode cX6_init 98 = .ok (.getfield 24, 3) := by decide +kernel
theorem dX6_init_101 : decode cX6_init 101 = .ok (.iconst 0, 1) := by decide +kernel
theorem dX6_init_102 : decode cX6_init 102 = .ok (.aaload, 1) := by decide +kernel
theorem dX6_init_103 : decode cX6_init 103 = .ok (.invokespecial 35, 3) := by decide +kernel
theorem dX6_init_106 : decode cX6_init 106 = .ok (.aastore, 1) := by decide +kernel
theorem dX6_init_107 : decode cX6_init 107 = .ok (.iinc 3 1, 3) := by decide +kernel
theorem dX6_init_110 : decode cX6_init 110 = .ok (.goto (-35), 3) := by decide +kernel
theorem dX6_init_113 : decode cX6_init 113 = .ok (.aload_n 0, 1) := by decide +kernel
theorem dX6_init_114 : decode cX6_init 114 = .ok (.new 38, 3) := by decide +kernel
theorem dX6_init_117 : decode cX6_init 117 = .ok (.dup, 1) := by decide +kernel
theorem dX6_init_118 : decode cX6_init 118 = .ok (.invokespecial 40, 3) := by decide +kernel
theorem dX6_init_121 : decode cX6_init 121 = .ok (.putfield 41, 3) := by decide +kernel
theorem dX6_init_124 : decode cX6_init 124 = .ok (.aload_n 0, 1) := by decide +kernel
theorem dX6_init_125 : decode cX6_init 125 = .ok (.new 45, 3) := by decide +kernel
theorem dX6_init_128 : decode cX6_init 128 = .ok (.dup, 1) := by decide +kernel
theorem dX6_init_129 : decode cX6_init 129 = .ok (.invokespecial 47, 3) := by decide +kernel
theorem dX6_init_132 : decode cX6_init 132 = .ok (.putfield 48, 3) := by decide +kernel
theorem dX6_init_135 : decode cX6_init 135 = .ok (.aload_n 0, 1) := by decide +kernel
theorem dX6_init_136 : decode cX6_init 136 = .ok (.new 52, 3) := by decide +kernel
theorem dX6_init_139 : decode cX6_init 139 = .ok (.dup, 1) := by decide +kernel
theorem dX6_init_140 : decode cX6_init 140 = .ok (.invokespecial 54, 3) := by decide +kernel
theorem dX6_init_143 : decode cX6_init 143 = .ok (.putfield 55, 3) := by decide +kernel
theorem dX6_init_146 : decode cX6_init 146 = .ok (.aload_n 0, 1) := by decide +kernel
theorem dX6_init_147 : decode cX6_init 147 = .ok (.new 59, 3) := by decide +kernel
theorem dX6_init_150 : decode cX6_init 150 = .ok (.dup, 1) := by decide +kernel
theorem dX6_init_151 : decode cX6_init 151 = .ok (.invokespecial 61, 3) := by decide +kernel
theorem dX6_init_154 : decode cX6_init 154 = .ok (.putfield 62, 3) := by decide +kernel
theorem dX6_init_157 : decode cX6_init 157 = .ok (.return_, 1) := by decide +kernel
theorem dX6_board_0 : decode cX6_board 0 = .ok (.aload_n 0, 1) := by decide +kernel
theorem dX6_board_1 : decode cX6_board 1 = .ok (.iload_n 1, 1) := by decide +kernel
theorem dX6_board_2 : decode cX6_board 2 = .ok (.invokevirtual 66, 3) := by decide +kernel
theorem dX6_board_5 : decode cX6_board 5 = .ok (.astore 7, 2) := by decide +kernel
theorem dX6_board_7 : decode cX6_board 7 = .ok (.aload_n 0, 1) := by decide +kernel
theorem dX6_board_8 : decode cX6_board 8 = .ok (.iload 6, 2) := by decide +kernel
theorem dX6_board_10 : decode cX6_board 10 = .ok (.invokevirtual 70, 3) := by decide +kernel
theorem dX6_board_13 : decode cX6_board 13 = .ok (.astore 8, 2) := by decide +kernel
theorem dX6_board_15 : decode cX6_board 15 = .ok (.dload_n 2, 1) := by decide +kernel
theorem dX6_board_16 : decode cX6_board 16 = .ok (.dconst 1, 1) := by decide +kernel
theorem dX6_board_17 : decode cX6_board 17 = .ok (.ldc2_w 74, 3) := by decide +kernel
theorem dX6_board_20 : decode cX6_board 20 = .ok (.invokestatic 76, 3) := by decide +kernel
theorem dX6_board_23 : decode cX6_board 23 = .ok (.dload 4, 2) := by decide +kernel
theorem dX6_board_25 : decode cX6_board 25 = .ok (.dconst 0, 1) := by decide +kernel
theorem dX6_board_26 : decode cX6_board 26 = .ok (.ldc2_w 80, 3) := by decide +kernel
theorem dX6_board_29 : decode cX6_board 29 = .ok (.invokestatic 76, 3) := by decide +kernel
theorem dX6_board_32 : decode cX6_board 32 = .ok (.aload 7, 2) := by decide +kernel
theorem dX6_board_34 : decode cX6_board 34 = .ok (.dload_n 2, 1) := by decide +kernel
theorem dX6_board_35 : decode cX6_board 35 = .ok (.dload 4, 2) := by decide +kernel
theorem dX6_board_37 : decode cX6_board 37 = .ok (.aload 8, 2) := by decide +kernel
theorem dX6_board_39 : decode cX6_board 39 = .ok (.invokevirtual 82, 3) := by decide +kernel
theorem dX6_board_42 : decode cX6_board 42 = .ok (.return_, 1) := by decide +kernel
theorem dX6_rate_0 : decode cX6_rate 0 = .ok (.aload_n 0, 1) := by decide +kernel
theorem dX6_rate_1 : decode cX6_rate 1 = .ok (.iload_n 1, 1) := by decide +kernel
theorem dX6_rate_2 : decode cX6_rate 2 = .ok (.invokevirtual 70, 3) := by decide +kernel
theorem dX6_rate_5 : decode cX6_rate 5 = .ok (.astore 6, 2) := by decide +kernel
theorem dX6_rate_7 : decode cX6_rate 7 = .ok (.dload_n 2, 1) := by decide +kernel
theorem dX6_rate_8 : decode cX6_rate 8 = .ok (.dconst 0, 1) := by decide +kernel
theorem dX6_rate_9 : decode cX6_rate 9 = .ok (.ldc2_w 86, 3) := by decide +kernel
theorem dX6_rate_12 : decode cX6_rate 12 = .ok (.invokestatic 76, 3) := by decide +kernel
theorem dX6_rate_15 : decode cX6_rate 15 = .ok (.dload 4, 2) := by decide +kernel
theorem dX6_rate_17 : decode cX6_rate 17 = .ok (.dconst 0, 1) := by decide +kernel
theorem dX6_rate_18 : decode cX6_rate 18 = .ok (.ldc2_w 86, 3) := by decide +kernel
theorem dX6_rate_21 : decode cX6_rate 21 = .ok (.invokestatic 76, 3) := by decide +kernel
theorem dX6_rate_24 : decode cX6_rate 24 = .ok (.aload 6, 2) := by decide +kernel
theorem dX6_rate_26 : decode cX6_rate 26 = .ok (.dload_n 2, 1) := by decide +kernel
theorem dX6_rate_27 : decode cX6_rate 27 = .ok (.putfield 88, 3) := by decide +kernel
theorem dX6_rate_30 : decode cX6_rate 30 = .ok (.aload 6, 2) := by decide +kernel
theorem dX6_rate_32 : decode cX6_rate 32 = .ok (.dload 4, 2) := by decide +kernel
theorem dX6_rate_34 : decode cX6_rate 34 = .ok (.putfield 92, 3) := by decide +kernel
theorem dX6_rate_37 : decode cX6_rate 37 = .ok (.return_, 1) := by decide +kernel
theorem dX6_air_0 : decode cX6_air 0 = .ok (.dload_n 1, 1) := by decide +kernel
theorem dX6_air_1 : decode cX6_air 1 = .ok (.ldc2_w 95, 3) := by decide +kernel
theorem dX6_air_4 : decode cX6_air 4 = .ok (.ldc2_w 74, 3) := by decide +kernel
theorem dX6_air_7 : decode cX6_air 7 = .ok (.invokestatic 76, 3) := by decide +kernel
theorem dX6_air_10 : decode cX6_air 10 = .ok (.dload_n 3, 1) := by decide +kernel
theorem dX6_air_11 : decode cX6_air 11 = .ok (.dconst 0, 1) := by decide +kernel
theorem dX6_air_12 : decode cX6_air 12 = .ok (.dconst 1, 1) := by decide +kernel
theorem dX6_air_13 : decode cX6_air 13 = .ok (.invokestatic 76, 3) := by decide +kernel
theorem dX6_air_16 : decode cX6_air 16 = .ok (.dload 5, 2) := by decide +kernel
theorem dX6_air_18 : decode cX6_air 18 = .ok (.dconst 0, 1) := by decide +kernel
theorem dX6_air_19 : decode cX6_air 19 = .ok (.ldc2_w 97, 3) := by decide +kernel
theorem dX6_air_22 : decode cX6_air 22 = .ok (.invokestatic 76, 3) := by decide +kernel
theorem dX6_air_25 : decode cX6_air 25 = .ok (.aload_n 0, 1) := by decide +kernel
theorem dX6_air_26 : decode cX6_air 26 = .ok (.getfield 41, 3) := by decide +kernel
theorem dX6_air_29 : decode cX6_air 29 = .ok (.dload_n 1, 1) := by decide +kernel
theorem dX6_air_30 : decode cX6_air 30 = .ok (.putfield 99, 3) := by decide +kernel
theorem dX6_air_33 : decode cX6_air 33 = .ok (.aload_n 0, 1) := by decide +kernel
theorem dX6_air_34 : decode cX6_air 34 = .ok (.getfield 41, 3) := by decide +kernel
theorem dX6_air_37 : decode cX6_air 37 = .ok (.dload_n 3, 1) := by decide +kernel
theorem dX6_air_38 : decode cX6_air 38 = .ok (.putfield 102, 3) := by decide +kernel
theorem dX6_air_41 : decode cX6_air 41 = .ok (.aload_n 0, 1) := by decide +kernel
theorem dX6_air_42 : decode cX6_air 42 = .ok (.getfield 41, 3) := by decide +kernel
theorem dX6_air_45 : decode cX6_air 45 = .ok (.dload 5, 2) := by decide +kernel
theorem dX6_air_47 : decode cX6_air 47 = .ok (.putfield 105, 3) := by decide +kernel
theorem dX6_air_50 : decode cX6_air 50 = .ok (.return_, 1) := by decide +kernel
theorem dX6_vent_0 : decode cX6_vent 0 = .ok (.dload_n 1, 1) := by decide +kernel
theorem dX6_vent_1 : decode cX6_vent 1 = .ok (.dconst 0, 1) := by decide +kernel
theorem dX6_vent_2 : decode cX6_vent 2 = .ok (.dconst 1, 1) := by decide +kernel
theorem dX6_vent_3 : decode cX6_vent 3 = .ok (.invokestatic 76, 3) := by decide +kernel
theorem dX6_vent_6 : decode cX6_vent 6 = .ok (.aload_n 0, 1) := by decide +kernel
theorem dX6_vent_7 : decode cX6_vent 7 = .ok (.getfield 41, 3) := by decide +kernel
theorem dX6_vent_10 : decode cX6_vent 10 = .ok (.dload_n 1, 1) := by decide +kernel
theorem dX6_vent_11 : decode cX6_vent 11 = .ok (.putfield 108, 3) := by decide +kernel
theorem dX6_vent_14 : decode cX6_vent 14 = .ok (.return_, 1) := by decide +kernel
theorem dX6_soak_0 : decode cX6_soak 0 = .ok (.aload_n 0, 1) := by decide +kernel
theorem dX6_soak_1 : decode cX6_soak 1 = .ok (.iload_n 1, 1) := by decide +kernel
theorem dX6_soak_2 : decode cX6_soak 2 = .ok (.invokevirtual 66, 3) := by decide +kernel
theorem dX6_soak_5 : decode cX6_soak 5 = .ok (.astore 5, 2) := by decide +kernel
theorem dX6_soak_7 : decode cX6_soak 7 = .ok (.aload_n 0, 1) := by decide +kernel
theorem dX6_soak_8 : decode cX6_soak 8 = .ok (.iload_n 2, 1) := by decide +kernel
theorem dX6_soak_9 : decode cX6_soak 9 = .ok (.invokevirtual 111, 3) := by decide +kernel
theorem dX6_soak_12 : decode cX6_soak 12 = .ok (.dload_n 3, 1) := by decide +kernel
theorem dX6_soak_13 : decode cX6_soak 13 = .ok (.dconst 0, 1) := by decide +kernel
theorem dX6_soak_14 : decode cX6_soak 14 = .ok (.ldc2_w 80, 3) := by decide +kernel
theorem dX6_soak_17 : decode cX6_soak 17 = .ok (.invokestatic 76, 3) := by decide +kernel
theorem dX6_soak_20 : decode cX6_soak 20 = .ok (.aload 5, 2) := by decide +kernel
theorem dX6_soak_22 : decode cX6_soak 22 = .ok (.invokestatic 115, 3) := by decide +kernel
theorem dX6_soak_25 : decode cX6_soak 25 = .ok (.aload 5, 2) := by decide +kernel
theorem dX6_soak_27 : decode cX6_soak 27 = .ok (.getfield 119, 3) := by decide +kernel
theorem dX6_soak_30 : decode cX6_soak 30 = .ok (.iload_n 2, 1) := by decide +kernel
theorem dX6_soak_31 : decode cX6_soak 31 = .ok (.dload_n 3, 1) := by decide +kernel
theorem dX6_soak_32 : decode cX6_soak 32 = .ok (.dastore, 1) := by decide +kernel
theorem dX6_soak_33 : decode cX6_soak 33 = .ok (.return_, 1) := by decide +kernel
theorem dX6_unit_0 : decode cX6_unit 0 = .ok (.aload_n 0, 1) := by decide +kernel
theorem dX6_unit_1 : decode cX6_unit 1 = .ok (.getfield 55, 3) := by decide +kernel
theorem dX6_unit_4 : decode cX6_unit 4 = .ok (.iload_n 1, 1) := by decide +kernel
theorem dX6_unit_5 : decode cX6_unit 5 = .ok (.invokevirtual 123, 3) := by decide +kernel
theorem dX6_unit_8 : decode cX6_unit 8 = .ok (.ireturn, 1) := by decide +kernel
theorem dX6_schedule_0 : decode cX6_schedule 0 = .ok (.aload_n 0, 1) := by decide +kernel
theorem dX6_schedule_1 : decode cX6_schedule 1 = .ok (.getfield 62, 3) := by decide +kernel
theorem dX6_schedule_4 : decode cX6_schedule 4 = .ok (.aload_n 0, 1) := by decide +kernel
theorem dX6_schedule_5 : decode cX6_schedule 5 = .ok (.getfield 55, 3) := by decide +kernel
theorem dX6_schedule_8 : decode cX6_schedule 8 = .ok (.invokevirtual 127, 3) := by decide +kernel
theorem dX6_schedule_11 : decode cX6_schedule 11 = .ok (.ireturn, 1) := by decide +kernel
theorem dX6_run_0 : decode cX6_run 0 = .ok (.iload_n 1, 1) := by decide +kernel
theorem dX6_run_1 : decode cX6_run 1 = .ok (.ifCond .lt 9, 3) := by decide +kernel
theorem dX6_run_4 : decode cX6_run 4 = .ok (.iload_n 1, 1) := by decide +kernel
theorem dX6_run_5 : decode cX6_run 5 = .ok (.bipush 100, 2) := by decide +kernel
theorem dX6_run_7 : decode cX6_run 7 = .ok (.if_icmp .le 13, 3) := by decide +kernel
theorem dX6_run_10 : decode cX6_run 10 = .ok (.new 131, 3) := by decide +kernel
theorem dX6_run_13 : decode cX6_run 13 = .ok (.dup, 1) := by decide +kernel
theorem dX6_run_14 : decode cX6_run 14 = .ok (.ldc 133, 2) := by decide +kernel
theorem dX6_run_16 : decode cX6_run 16 = .ok (.invokespecial 135, 3) := by decide +kernel
theorem dX6_run_19 : decode cX6_run 19 = .ok (.athrow, 1) := by decide +kernel
theorem dX6_run_20 : decode cX6_run 20 = .ok (.iconst 0, 1) := by decide +kernel
theorem dX6_run_21 : decode cX6_run 21 = .ok (.istore_n 2, 1) := by decide +kernel
theorem dX6_run_22 : decode cX6_run 22 = .ok (.iload_n 2, 1) := by decide +kernel
theorem dX6_run_23 : decode cX6_run 23 = .ok (.iload_n 1, 1) := by decide +kernel
theorem dX6_run_24 : decode cX6_run 24 = .ok (.if_icmp .ge 27, 3) := by decide +kernel
theorem dX6_run_27 : decode cX6_run 27 = .ok (.aload_n 0, 1) := by decide +kernel
theorem dX6_run_28 : decode cX6_run 28 = .ok (.invokevirtual 138, 3) := by decide +kernel
theorem dX6_run_31 : decode cX6_run 31 = .ok (.ifCond .eq 10, 3) := by decide +kernel
theorem dX6_run_34 : decode cX6_run 34 = .ok (.iconst (-1), 1) := by decide +kernel
theorem dX6_run_35 : decode cX6_run 35 = .ok (.aload_n 0, 1) := by decide +kernel
theorem dX6_run_36 : decode cX6_run 36 = .ok (.getfield 142, 3) := by decide +kernel
theorem dX6_run_39 : decode cX6_run 39 = .ok (.isub, 1) := by decide +kernel
theorem dX6_run_40 : decode cX6_run 40 = .ok (.ireturn, 1) := by decide +kernel
theorem dX6_run_41 : decode cX6_run 41 = .ok (.aload_n 0, 1) := by decide +kernel
theorem dX6_run_42 : decode cX6_run 42 = .ok (.invokevirtual 145, 3) := by decide +kernel
theorem dX6_run_45 : decode cX6_run 45 = .ok (.iinc 2 1, 3) := by decide +kernel
theorem dX6_run_48 : decode cX6_run 48 = .ok (.goto (-26), 3) := by decide +kernel
theorem dX6_run_51 : decode cX6_run 51 = .ok (.aload_n 0, 1) := by decide +kernel
theorem dX6_run_52 : decode cX6_run 52 = .ok (.getfield 142, 3) := by decide +kernel
theorem dX6_run_55 : decode cX6_run 55 = .ok (.ireturn, 1) := by decide +kernel
theorem dX6_limit_0 : decode cX6_limit 0 = .ok (.aload_n 0, 1) := by decide +kernel
theorem dX6_limit_1 : decode cX6_limit 1 = .ok (.iload_n 1, 1) := by decide +kernel
theorem dX6_limit_2 : decode cX6_limit 2 = .ok (.invokevirtual 66, 3) := by decide +kernel
theorem dX6_limit_5 : decode cX6_limit 5 = .ok (.astore 4, 2) := by decide +kernel
theorem dX6_limit_7 : decode cX6_limit 7 = .ok (.dload_n 2, 1) := by decide +kernel
theorem dX6_limit_8 : decode cX6_limit 8 = .ok (.dconst 0, 1) := by decide +kernel
theorem dX6_limit_9 : decode cX6_limit 9 = .ok (.dcmp .l, 1) := by decide +kernel
theorem dX6_limit_10 : decode cX6_limit 10 = .ok (.ifCond .ge 13, 3) := by decide +kernel
theorem dX6_limit_13 : decode cX6_limit 13 = .ok (.new 131, 3) := by decide +kernel
theorem dX6_limit_16 : decode cX6_limit 16 = .ok (.dup, 1) := by decide +kernel
theorem dX6_limit_17 : decode cX6_limit 17 = .ok (.ldc 148, 2) := by decide +kernel
theorem dX6_limit_19 : decode cX6_limit 19 = .ok (.invokespecial 135, 3) := by decide +kernel
theorem dX6_limit_22 : decode cX6_limit 22 = .ok (.athrow, 1) := by decide +kernel
theorem dX6_limit_23 : decode cX6_limit 23 = .ok (.aload 4, 2) := by decide +kernel
theorem dX6_limit_25 : decode cX6_limit 25 = .ok (.invokestatic 115, 3) := by decide +kernel
theorem dX6_limit_28 : decode cX6_limit 28 = .ok (.aload 4, 2) := by decide +kernel
theorem dX6_limit_30 : decode cX6_limit 30 = .ok (.dload_n 2, 1) := by decide +kernel
