theorem dX7_passStep_153 : decode cX7_passStep 153 = .ok (.bipush 44, 2) := by decide +kernel
theorem dX7_passStep_155 : decode cX7_passStep 155 = .ok (.invokevirtual 131, 3) := by decide +kernel
theorem dX7_passStep_158 : decode cX7_passStep 158 = .ok (.ifCond .eq 13, 3) := by decide +kernel
theorem dX7_passStep_161 : decode cX7_passStep 161 = .ok (.aload_n 0, 1) := by decide +kernel
theorem dX7_passStep_162 : decode cX7_passStep 162 = .ok (.iconst 0, 1) := by decide +kernel
theorem dX7_passStep_163 : decode cX7_passStep 163 = .ok (.bipush 100, 2) := by decide +kernel
theorem dX7_passStep_165 : decode cX7_passStep 165 = .ok (.invokevirtual 128, 3) := by decide +kernel
theorem dX7_passStep_168 : decode cX7_passStep 168 = .ok (.ifCond .ne 5, 3) := by decide +kernel
theorem dX7_passStep_171 : decode cX7_passStep 171 = .ok (.iconst 0, 1) := by decide +kernel
theorem dX7_passStep_172 : decode cX7_passStep 172 = .ok (.ireturn, 1) := by decide +kernel
theorem dX7_passStep_173 : decode cX7_passStep 173 = .ok (.aload_n 0, 1) := by decide +kernel
theorem dX7_passStep_174 : decode cX7_passStep 174 = .ok (.getfield 68, 3) := by decide +kernel
theorem dX7_passStep_177 : decode cX7_passStep 177 = .ok (.aload_n 0, 1) := by decide +kernel
theorem dX7_passStep_178 : decode cX7_passStep 178 = .ok (.getfield 125, 3) := by decide +kernel
theorem dX7_passStep_181 : decode cX7_passStep 181 = .ok (.aload_n 0, 1) := by decide +kernel
theorem dX7_passStep_182 : decode cX7_passStep 182 = .ok (.getfield 118, 3) := by decide +kernel
theorem dX7_passStep_185 : decode cX7_passStep 185 = .ok (.iastore, 1) := by decide +kernel
theorem dX7_passStep_186 : decode cX7_passStep 186 = .ok (.aload_n 0, 1) := by decide +kernel
theorem dX7_passStep_187 : decode cX7_passStep 187 = .ok (.dup, 1) := by decide +kernel
theorem dX7_passStep_188 : decode cX7_passStep 188 = .ok (.getfield 125, 3) := by decide +kernel
theorem dX7_passStep_191 : decode cX7_passStep 191 = .ok (.iconst 1, 1) := by decide +kernel
theorem dX7_passStep_192 : decode cX7_passStep 192 = .ok (.iadd, 1) := by decide +kernel
theorem dX7_passStep_193 : decode cX7_passStep 193 = .ok (.putfield 125, 3) := by decide +kernel
theorem dX7_passStep_196 : decode cX7_passStep 196 = .ok (.iconst 1, 1) := by decide +kernel
theorem dX7_passStep_197 : decode cX7_passStep 197 = .ok (.ireturn, 1) := by decide +kernel
theorem dX7_schedule_0 : decode cX7_schedule 0 = .ok (.aload_n 0, 1) := by decide +kernel
theorem dX7_schedule_1 : decode cX7_schedule 1 = .ok (.iconst 0, 1) := by decide +kernel
theorem dX7_schedule_2 : decode cX7_schedule 2 = .ok (.putfield 78, 3) := by decide +kernel
theorem dX7_schedule_5 : decode cX7_schedule 5 = .ok (.aload_n 0, 1) := by decide +kernel
theorem dX7_schedule_6 : decode cX7_schedule 6 = .ok (.iconst 0, 1) := by decide +kernel
theorem dX7_schedule_7 : decode cX7_schedule 7 = .ok (.putfield 112, 3) := by decide +kernel
theorem dX7_schedule_10 : decode cX7_schedule 10 = .ok (.aload_n 0, 1) := by decide +kernel
theorem dX7_schedule_11 : decode cX7_schedule 11 = .ok (.iconst 0, 1) := by decide +kernel
theorem dX7_schedule_12 : decode cX7_schedule 12 = .ok (.putfield 125, 3) := by decide +kernel
theorem dX7_schedule_15 : decode cX7_schedule 15 = .ok (.aload_n 0, 1) := by decide +kernel
theorem dX7_schedule_16 : decode cX7_schedule 16 = .ok (.iconst 0, 1) := by decide +kernel
theorem dX7_schedule_17 : decode cX7_schedule 17 = .ok (.putfield 134, 3) := by decide +kernel
theorem dX7_schedule_20 : decode cX7_schedule 20 = .ok (.aload_n 0, 1) := by decide +kernel
theorem dX7_schedule_21 : decode cX7_schedule 21 = .ok (.invokevirtual 137, 3) := by decide +kernel
theorem dX7_schedule_24 : decode cX7_schedule 24 = .ok (.istore_n 1, 1) := by decide +kernel
theorem dX7_schedule_25 : decode cX7_schedule 25 = .ok (.iload_n 1, 1) := by decide +kernel
theorem dX7_schedule_26 : decode cX7_schedule 26 = .ok (.ifCond .eq 55, 3) := by decide +kernel
theorem dX7_schedule_29 : decode cX7_schedule 29 = .ok (.aload_n 0, 1) := by decide +kernel
theorem dX7_schedule_30 : decode cX7_schedule 30 = .ok (.getfield 112, 3) := by decide +kernel
theorem dX7_schedule_33 : decode cX7_schedule 33 = .ok (.aload_n 0, 1) := by decide +kernel
theorem dX7_schedule_34 : decode cX7_schedule 34 = .ok (.getfield 106, 3) := by decide +kernel
theorem dX7_schedule_37 : decode cX7_schedule 37 = .ok (.if_icmp .ge 44, 3) := by decide +kernel
theorem dX7_schedule_40 : decode cX7_schedule 40 = .ok (.aload_n 0, 1) := by decide +kernel
theorem dX7_schedule_41 : decode cX7_schedule 41 = .ok (.getfield 56, 3) := by decide +kernel
theorem dX7_schedule_44 : decode cX7_schedule 44 = .ok (.aload_n 0, 1) := by decide +kernel
theorem dX7_schedule_45 : decode cX7_schedule 45 = .ok (.getfield 112, 3) := by decide +kernel
theorem dX7_schedule_48 : decode cX7_schedule 48 = .ok (.iaload, 1) := by decide +kernel
theorem dX7_schedule_49 : decode cX7_schedule 49 = .ok (.bipush 59, 2) := by decide +kernel
theorem dX7_schedule_51 : decode cX7_schedule 51 = .ok (.if_icmp .ne 30, 3) := by decide +kernel
theorem dX7_schedule_54 : decode cX7_schedule 54 = .ok (.aload_n 0, 1) := by decide +kernel
theorem dX7_schedule_55 : decode cX7_schedule 55 = .ok (.getfield 125, 3) := by decide +kernel
theorem dX7_schedule_58 : decode cX7_schedule 58 = .ok (.bipush 12, 2) := by decide +kernel
theorem dX7_schedule_60 : decode cX7_schedule 60 = .ok (.if_icmp .ge 21, 3) := by decide +kernel
theorem dX7_schedule_63 : decode cX7_schedule 63 = .ok (.aload_n 0, 1) := by decide +kernel
theorem dX7_schedule_64 : decode cX7_schedule 64 = .ok (.dup, 1) := by decide +kernel
theorem dX7_schedule_65 : decode cX7_schedule 65 = .ok (.getfield 112, 3) := by decide +kernel
theorem dX7_schedule_68 : decode cX7_schedule 68 = .ok (.iconst 1, 1) := by decide +kernel
theorem dX7_schedule_69 : decode cX7_schedule 69 = .ok (.iadd, 1) := by decide +kernel
theorem dX7_schedule_70 : decode cX7_schedule 70 = .ok (.putfield 112, 3) := by decide +kernel
theorem dX7_schedule_73 : decode cX7_schedule 73 = .ok (.aload_n 0, 1) := by decide +kernel
theorem dX7_schedule_74 : decode cX7_schedule 74 = .ok (.invokevirtual 137, 3) := by decide +kernel
theorem dX7_schedule_77 : decode cX7_schedule 77 = .ok (.istore_n 1, 1) := by decide +kernel
theorem dX7_schedule_78 : decode cX7_schedule 78 = .ok (.goto (-53), 3) := by decide +kernel
theorem dX7_schedule_81 : decode cX7_schedule 81 = .ok (.iload_n 1, 1) := by decide +kernel
theorem dX7_schedule_82 : decode cX7_schedule 82 = .ok (.ifCond .eq 23, 3) := by decide +kernel
theorem dX7_schedule_85 : decode cX7_schedule 85 = .ok (.aload_n 0, 1) := by decide +kernel
theorem dX7_schedule_86 : decode cX7_schedule 86 = .ok (.getfield 112, 3) := by decide +kernel
theorem dX7_schedule_89 : decode cX7_schedule 89 = .ok (.aload_n 0, 1) := by decide +kernel
theorem dX7_schedule_90 : decode cX7_schedule 90 = .ok (.getfield 106, 3) := by decide +kernel
theorem dX7_schedule_93 : decode cX7_schedule 93 = .ok (.if_icmp .ge 12, 3) := by decide +kernel
theorem dX7_schedule_96 : decode cX7_schedule 96 = .ok (.aload_n 0, 1) := by decide +kernel
theorem dX7_schedule_97 : decode cX7_schedule 97 = .ok (.aload_n 0, 1) := by decide +kernel
theorem dX7_schedule_98 : decode cX7_schedule 98 = .ok (.getfield 112, 3) := by decide +kernel
theorem dX7_schedule_101 : decode cX7_schedule 101 = .ok (.invokevirtual 115, 3) := by decide +kernel
theorem dX7_schedule_104 : decode cX7_schedule 104 = .ok (.istore_n 1, 1) := by decide +kernel
theorem dX7_schedule_105 : decode cX7_schedule 105 = .ok (.aload_n 0, 1) := by decide +kernel
theorem dX7_schedule_106 : decode cX7_schedule 106 = .ok (.iconst 0, 1) := by decide +kernel
theorem dX7_schedule_107 : decode cX7_schedule 107 = .ok (.putfield 106, 3) := by decide +kernel
theorem dX7_schedule_110 : decode cX7_schedule 110 = .ok (.aload_n 0, 1) := by decide +kernel
theorem dX7_schedule_111 : decode cX7_schedule 111 = .ok (.iload_n 1, 1) := by decide +kernel
theorem dX7_schedule_112 : decode cX7_schedule 112 = .ok (.ifCond .eq 10, 3) := by decide +kernel
theorem dX7_schedule_115 : decode cX7_schedule 115 = .ok (.aload_n 0, 1) := by decide +kernel
theorem dX7_schedule_116 : decode cX7_schedule 116 = .ok (.getfield 125, 3) := by decide +kernel
theorem dX7_schedule_119 : decode cX7_schedule 119 = .ok (.goto 4, 3) := by decide +kernel
theorem dX7_schedule_122 : decode cX7_schedule 122 = .ok (.iconst 0, 1) := by decide +kernel
theorem dX7_schedule_123 : decode cX7_schedule 123 = .ok (.putfield 125, 3) := by decide +kernel
theorem dX7_schedule_126 : decode cX7_schedule 126 = .ok (.iload_n 1, 1) := by decide +kernel
theorem dX7_schedule_127 : decode cX7_schedule 127 = .ok (.ifCond .eq 10, 3) := by decide +kernel
theorem dX7_schedule_130 : decode cX7_schedule 130 = .ok (.aload_n 0, 1) := by decide +kernel
theorem dX7_schedule_131 : decode cX7_schedule 131 = .ok (.getfield 125, 3) := by decide +kernel
theorem dX7_schedule_134 : decode cX7_schedule 134 = .ok (.goto 9, 3) := by decide +kernel
theorem dX7_schedule_137 : decode cX7_schedule 137 = .ok (.iconst (-1), 1) := by decide +kernel
theorem dX7_schedule_138 : decode cX7_schedule 138 = .ok (.aload_n 0, 1) := by decide +kernel
theorem dX7_schedule_139 : decode cX7_schedule 139 = .ok (.getfield 109, 3) := by decide +kernel
theorem dX7_schedule_142 : decode cX7_schedule 142 = .ok (.isub, 1) := by decide +kernel
theorem dX7_schedule_143 : decode cX7_schedule 143 = .ok (.ireturn, 1) := by decide +kernel
theorem dX7_sumOf_0 : decode cX7_sumOf 0 = .ok (.aload_n 0, 1) := by decide +kernel
theorem dX7_sumOf_1 : decode cX7_sumOf 1 = .ok (.getfield 41, 3) := by decide +kernel
theorem dX7_sumOf_4 : decode cX7_sumOf 4 = .ok (.bipush 16, 2) := by decide +kernel
theorem dX7_sumOf_6 : decode cX7_sumOf 6 = .ok (.iload_n 1, 1) := by decide +kernel
theorem dX7_sumOf_7 : decode cX7_sumOf 7 = .ok (.imul, 1) := by decide +kernel
theorem dX7_sumOf_8 : decode cX7_sumOf 8 = .ok (.daload, 1) := by decide +kernel
theorem dX7_sumOf_9 : decode cX7_sumOf 9 = .ok (.dstore_n 2, 1) := by decide +kernel
theorem dX7_sumOf_10 : decode cX7_sumOf 10 = .ok (.iconst 1, 1) := by decide +kernel
theorem dX7_sumOf_11 : decode cX7_sumOf 11 = .ok (.istore 4, 2) := by decide +kernel
theorem dX7_sumOf_13 : decode cX7_sumOf 13 = .ok (.iload 4, 2) := by decide +kernel
theorem dX7_sumOf_15 : decode cX7_sumOf 15 = .ok (.aload_n 0, 1) := by decide +kernel
theorem dX7_sumOf_16 : decode cX7_sumOf 16 = .ok (.getfield 71, 3) := by decide +kernel
theorem dX7_sumOf_19 : decode cX7_sumOf 19 = .ok (.if_icmp .ge 24, 3) := by decide +kernel
theorem dX7_sumOf_22 : decode cX7_sumOf 22 = .ok (.dload_n 2, 1) := by decide +kernel
theorem dX7_sumOf_23 : decode cX7_sumOf 23 = .ok (.aload_n 0, 1) := by decide +kernel
theorem dX7_sumOf_24 : decode cX7_sumOf 24 = .ok (.getfield 41, 3) := by decide +kernel
theorem dX7_sumOf_27 : decode cX7_sumOf 27 = .ok (.bipush 16, 2) := by decide +kernel
theorem dX7_sumOf_29 : decode cX7_sumOf 29 = .ok (.iload_n 1, 1) := by decide +kernel
theorem dX7_sumOf_30 : decode cX7_sumOf 30 = .ok (.imul, 1) := by decide +kernel
theorem dX7_sumOf_31 : decode cX7_sumOf 31 = .ok (.iload 4, 2) := by decide +kernel
theorem dX7_sumOf_33 : decode cX7_sumOf 33 = .ok (.iadd, 1) := by decide +kernel
theorem dX7_sumOf_34 : decode cX7_sumOf 34 = .ok (.daload, 1) := by decide +kernel
theorem dX7_sumOf_35 : decode cX7_sumOf 35 = .ok (.dadd, 1) := by decide +kernel
theorem dX7_sumOf_36 : decode cX7_sumOf 36 = .ok (.dstore_n 2, 1) := by decide +kernel
theorem dX7_sumOf_37 : decode cX7_sumOf 37 = .ok (.iinc 4 1, 3) := by decide +kernel
theorem dX7_sumOf_40 : decode cX7_sumOf 40 = .ok (.goto (-27), 3) := by decide +kernel
theorem dX7_sumOf_43 : decode cX7_sumOf 43 = .ok (.dload_n 2, 1) := by decide +kernel
theorem dX7_sumOf_44 : decode cX7_sumOf 44 = .ok (.dreturn, 1) := by decide +kernel
theorem dX7_meanOf_0 : decode cX7_meanOf 0 = .ok (.aload_n 0, 1) := by decide +kernel
theorem dX7_meanOf_1 : decode cX7_meanOf 1 = .ok (.iload_n 1, 1) := by decide +kernel
theorem dX7_meanOf_2 : decode cX7_meanOf 2 = .ok (.invokevirtual 140, 3) := by decide +kernel
theorem dX7_meanOf_5 : decode cX7_meanOf 5 = .ok (.aload_n 0, 1) := by decide +kernel
theorem dX7_meanOf_6 : decode cX7_meanOf 6 = .ok (.getfield 71, 3) := by decide +kernel
theorem dX7_meanOf_9 : decode cX7_meanOf 9 = .ok (.i2d, 1) := by decide +kernel
theorem dX7_meanOf_10 : decode cX7_meanOf 10 = .ok (.ddiv, 1) := by decide +kernel
theorem dX7_meanOf_11 : decode cX7_meanOf 11 = .ok (.dreturn, 1) := by decide +kernel
theorem dX7_balanceNow_0 : decode cX7_balanceNow 0 = .ok (.ldc2_w 144, 3) := by decide +kernel
theorem dX7_balanceNow_3 : decode cX7_balanceNow 3 = .ok (.aload_n 0, 1) := by decide +kernel
theorem dX7_balanceNow_4 : decode cX7_balanceNow 4 = .ok (.getfield 24, 3) := by decide +kernel
theorem dX7_balanceNow_7 : decode cX7_balanceNow 7 = .ok (.dmul, 1) := by decide +kernel
theorem dX7_balanceNow_8 : decode cX7_balanceNow 8 = .ok (.dconst 1, 1) := by decide +kernel
theorem dX7_balanceNow_9 : decode cX7_balanceNow 9 = .ok (.aload_n 0, 1) := by decide +kernel
theorem dX7_balanceNow_10 : decode cX7_balanceNow 10 = .ok (.getfield 18, 3) := by decide +kernel
theorem dX7_balanceNow_13 : decode cX7_balanceNow 13 = .ok (.ldc2_w 146, 3) := by decide +kernel
theorem dX7_balanceNow_16 : decode cX7_balanceNow 16 = .ok (.dsub, 1) := by decide +kernel
theorem dX7_balanceNow_17 : decode cX7_balanceNow 17 = .ok (.ldc2_w 148, 3) := by decide +kernel
theorem dX7_balanceNow_20 : decode cX7_balanceNow 20 = .ok (.ddiv, 1) := by decide +kernel
theorem dX7_balanceNow_21 : decode cX7_balanceNow 21 = .ok (.dsub, 1) := by decide +kernel
theorem dX7_balanceNow_22 : decode cX7_balanceNow 22 = .ok (.dmul, 1) := by decide +kernel
theorem dX7_balanceNow_23 : decode cX7_balanceNow 23 = .ok (.dreturn, 1) := by decide +kernel
theorem dX7_isRefused_0 : decode cX7_isRefused 0 = .ok (.iconst 0, 1) := by decide +kernel
theorem dX7_isRefused_1 : decode cX7_isRefused 1 = .ok (.istore_n 1, 1) := by decide +kernel
theorem dX7_isRefused_2 : decode cX7_isRefused 2 = .ok (.iload_n 1, 1) := by decide +kernel
theorem dX7_isRefused_3 : decode cX7_isRefused 3 = .ok (.aload_n 0, 1) := by decide +kernel
theorem dX7_isRefused_4 : decode cX7_isRefused 4 = .ok (.getfield 75, 3) := by decide +kernel
theorem dX7_isRefused_7 : decode cX7_isRefused 7 = .ok (.if_icmp .ge 138, 3) := by decide +kernel
theorem dX7_isRefused_10 : decode cX7_isRefused 10 = .ok (.aload_n 0, 1) := by decide +kernel
theorem dX7_isRefused_11 : decode cX7_isRefused 11 = .ok (.getfield 30, 3) := by decide +kernel
theorem dX7_isRefused_14 : decode cX7_isRefused 14 = .ok (.iload_n 1, 1) := by decide +kernel
theorem dX7_isRefused_15 : decode cX7_isRefused 15 = .ok (.baload, 1) := by decide +kernel
theorem dX7_isRefused_16 : decode cX7_isRefused 16 = .ok (.ifCond .eq 123, 3) := by decide +kernel
theorem dX7_isRefused_19 : decode cX7_isRefused 19 = .ok (.dconst 0, 1) := by decide +kernel
theorem dX7_isRefused_20 : decode cX7_isRefused 20 = .ok (.dstore_n 2, 1) := by decide +kernel
theorem dX7_isRefused_21 : decode cX7_isRefused 21 = .ok (.iconst 0, 1) := by decide +kernel
theorem dX7_isRefused_22 : decode cX7_isRefused 22 = .ok (.istore 4, 2) := by decide +kernel
theorem dX7_isRefused_24 : decode cX7_isRefused 24 = .ok (.iload 4, 2) := by decide +kernel
theorem dX7_isRefused_26 : decode cX7_isRefused 26 = .ok (.aload_n 0, 1) := by decide +kernel
theorem dX7_isRefused_27 : decode cX7_isRefused 27 = .ok (.getfield 71, 3) := by decide +kernel
theorem dX7_isRefused_30 : decode cX7_isRefused 30 = .ok (.if_icmp .ge 43, 3) := by decide +kernel
theorem dX7_isRefused_33 : decode cX7_isRefused 33 = .ok (.aload_n 0, 1) := by decide +kernel
theorem dX7_isRefused_34 : decode cX7_isRefused 34 = .ok (.getfield 41, 3) := by decide +kernel
theorem dX7_isRefused_37 : decode cX7_isRefused 37 = .ok (.bipush 16, 2) := by decide +kernel
theorem dX7_isRefused_39 : decode cX7_isRefused 39 = .ok (.iload_n 1, 1) := by decide +kernel
theorem dX7_isRefused_40 : decode cX7_isRefused 40 = .ok (.imul, 1) := by decide +kernel
theorem dX7_isRefused_41 : decode cX7_isRefused 41 = .ok (.iload 4, 2) := by decide +kernel
theorem dX7_isRefused_43 : decode cX7_isRefused 43 = .ok (.iadd, 1) := by decide +kernel
theorem dX7_isRefused_44 : decode cX7_isRefused 44 = .ok (.daload, 1) := by decide +kernel
theorem dX7_isRefused_45 : decode cX7_isRefused 45 = .ok (.dload_n 2, 1) := by decide +kernel
theorem dX7_isRefused_46 : decode cX7_isRefused 46 = .ok (.dcmp .l, 1) := by decide +kernel
theorem dX7_isRefused_47 : decode cX7_isRefused 47 = .ok (.ifCond .le 18, 3) := by decide +kernel
theorem dX7_isRefused_50 : decode cX7_isRefused 50 = .ok (.aload_n 0, 1) := by decide +kernel
theorem dX7_isRefused_51 : decode cX7_isRefused 51 = .ok (.getfield 41, 3) := by decide +kernel
theorem dX7_isRefused_54 : decode cX7_isRefused 54 = .ok (.bipush 16, 2) := by decide +kernel
theorem dX7_isRefused_56 : decode cX7_isRefused 56 = .ok (.iload_n 1, 1) := by decide +kernel
theorem dX7_isRefused_57 : decode cX7_isRefused 57 = .ok (.imul, 1) := by decide +kernel
theorem dX7_isRefused_58 : decode cX7_isRefused 58 = .ok (.iload 4, 2) := by decide +kernel
theorem dX7_isRefused_60 : decode cX7_isRefused 60 = .ok (.iadd, 1) := by decide +kernel
theorem dX7_isRefused_61 : decode cX7_isRefused 61 = .ok (.daload, 1) := by decide +kernel
theorem dX7_isRefused_62 : decode cX7_isRefused 62 = .ok (.goto 4, 3) := by decide +kernel
theorem dX7_isRefused_65 : decode cX7_isRefused 65 = .ok (.dload_n 2, 1) := by decide +kernel
theorem dX7_isRefused_66 : decode cX7_isRefused 66 = .ok (.dstore_n 2, 1) := by decide +kernel
theorem dX7_isRefused_67 : decode cX7_isRefused 67 = .ok (.iinc 4 1, 3) := by decide +kernel
theorem dX7_isRefused_70 : decode cX7_isRefused 70 = .ok (.goto (-46), 3) := by decide +kernel
theorem dX7_isRefused_73 : decode cX7_isRefused 73 = .ok (.aload_n 0, 1) := by decide +kernel
theorem dX7_isRefused_74 : decode cX7_isRefused 74 = .ok (.getfield 34, 3) := by decide +kernel
theorem dX7_isRefused_77 : decode cX7_isRefused 77 = .ok (.iload_n 1, 1) := by decide +kernel
theorem dX7_isRefused_78 : decode cX7_isRefused 78 = .ok (.daload, 1) := by decide +kernel
theorem dX7_isRefused_79 : decode cX7_isRefused 79 = .ok (.dstore 4, 2) := by decide +kernel
theorem dX7_isRefused_81 : decode cX7_isRefused 81 = .ok (.aload_n 0, 1) := by decide +kernel
theorem dX7_isRefused_82 : decode cX7_isRefused 82 = .ok (.getfield 27, 3) := by decide +kernel
theorem dX7_isRefused_85 : decode cX7_isRefused 85 = .ok (.ldc2_w 93, 3) := by decide +kernel
theorem dX7_isRefused_88 : decode cX7_isRefused 88 = .ok (.dload 4, 2) := by decide +kernel
theorem dX7_isRefused_90 : decode cX7_isRefused 90 = .ok (.dmul, 1) := by decide +kernel
theorem dX7_isRefused_91 : decode cX7_isRefused 91 = .ok (.ddiv, 1) := by decide +kernel
theorem dX7_isRefused_92 : decode cX7_isRefused 92 = .ok (.ldc2_w 150, 3) := by decide +kernel
theorem dX7_isRefused_95 : decode cX7_isRefused 95 = .ok (.dcmp .l, 1) := by decide +kernel
theorem dX7_isRefused_96 : decode cX7_isRefused 96 = .ok (.ifCond .gt 41, 3) := by decide +kernel
theorem dX7_isRefused_99 : decode cX7_isRefused 99 = .ok (.aload_n 0, 1) := by decide +kernel
theorem dX7_isRefused_100 : decode cX7_isRefused 100 = .ok (.getfield 7, 3) := by decide +kernel
theorem dX7_isRefused_103 : decode cX7_isRefused 103 = .ok (.aload_n 0, 1) := by decide +kernel
theorem dX7_isRefused_104 : decode cX7_isRefused 104 = .ok (.getfield 37, 3) := by decide +kernel
theorem dX7_isRefused_107 : decode cX7_isRefused 107 = .ok (.iload_n 1, 1) := by decide +kernel
theorem dX7_isRefused_108 : decode cX7_isRefused 108 = .ok (.iaload, 1) := by decide +kernel
theorem dX7_isRefused_109 : decode cX7_isRefused 109 = .ok (.daload, 1) := by decide +kernel
theorem dX7_isRefused_110 : decode cX7_isRefused 110 = .ok (.aload_n 0, 1) := by decide +kernel
theorem dX7_isRefused_111 : decode cX7_isRefused 111 = .ok (.getfield 13, 3) := by decide +kernel
theorem dX7_isRefused_114 : decode cX7_isRefused 114 = .ok (.aload_n 0, 1) := by decide +kernel
theorem dX7_isRefused_115 : decode cX7_isRefused 115 = .ok (.getfield 37, 3) := by decide +kernel
theorem dX7_isRefused_118 : decode cX7_isRefused 118 = .ok (.iload_n 1, 1) := by decide +kernel
theorem dX7_isRefused_119 : decode cX7_isRefused 119 = .ok (.iaload, 1) := by decide +kernel
theorem dX7_isRefused_120 : decode cX7_isRefused 120 = .ok (.daload, 1) := by decide +kernel
theorem dX7_isRefused_121 : decode cX7_isRefused 121 = .ok (.dload_n 2, 1) := by decide +kernel
theorem dX7_isRefused_122 : decode cX7_isRefused 122 = .ok (.dmul, 1) := by decide +kernel
theorem dX7_isRefused_123 : decode cX7_isRefused 123 = .ok (.dadd, 1) := by decide +kernel
theorem dX7_isRefused_124 : decode cX7_isRefused 124 = .ok (.dload 4, 2) := by decide +kernel
theorem dX7_isRefused_126 : decode cX7_isRefused 126 = .ok (.dload 4, 2) := by decide +kernel
theorem dX7_isRefused_128 : decode cX7_isRefused 128 = .ok (.dmul, 1) := by decide +kernel
theorem dX7_isRefused_129 : decode cX7_isRefused 129 = .ok (.ddiv, 1) := by decide +kernel
theorem dX7_isRefused_130 : decode cX7_isRefused 130 = .ok (.ldc2_w 150, 3) := by decide +kernel
theorem dX7_isRefused_133 : decode cX7_isRefused 133 = .ok (.dcmp .l, 1) := by decide +kernel
theorem dX7_isRefused_134 : decode cX7_isRefused 134 = .ok (.ifCond .le 5, 3) := by decide +kernel
theorem dX7_isRefused_137 : decode cX7_isRefused 137 = .ok (.iconst 1, 1) := by decide +kernel
theorem dX7_isRefused_138 : decode cX7_isRefused 138 = .ok (.ireturn, 1) := by decide +kernel
theorem dX7_isRefused_139 : decode cX7_isRefused 139 = .ok (.iinc 1 1, 3) := by decide +kernel
theorem dX7_isRefused_142 : decode cX7_isRefused 142 = .ok (.goto (-140), 3) := by decide +kernel
theorem dX7_isRefused_145 : decode cX7_isRefused 145 = .ok (.iconst 0, 1) := by decide +kernel
theorem dX7_isRefused_146 : decode cX7_isRefused 146 = .ok (.ireturn, 1) := by decide +kernel
theorem dX7_hasCome_0 : decode cX7_hasCome 0 = .ok (.aload_n 0, 1) := by decide +kernel
theorem dX7_hasCome_1 : decode cX7_hasCome 1 = .ok (.getfield 59, 3) := by decide +kernel
theorem dX7_hasCome_4 : decode cX7_hasCome 4 = .ok (.aload_n 0, 1) := by decide +kernel
theorem dX7_hasCome_5 : decode cX7_hasCome 5 = .ok (.getfield 134, 3) := by decide +kernel
theorem dX7_hasCome_8 : decode cX7_hasCome 8 = .ok (.baload, 1) := by decide +kernel
theorem dX7_hasCome_9 : decode cX7_hasCome 9 = .ok (.ifCond .ne 25, 3) := by decide +kernel
theorem dX7_hasCome_12 : decode cX7_hasCome 12 = .ok (.aload_n 0, 1) := by decide +kernel
theorem dX7_hasCome_13 : decode cX7_hasCome 13 = .ok (.getfield 152, 3) := by decide +kernel
theorem dX7_hasCome_16 : decode cX7_hasCome 16 = .ok (.aload_n 0, 1) := by decide +kernel
theorem dX7_hasCome_17 : decode cX7_hasCome 17 = .ok (.getfield 62, 3) := by decide +kernel
theorem dX7_hasCome_20 : decode cX7_hasCome 20 = .ok (.aload_n 0, 1) := by decide +kernel
theorem dX7_hasCome_21 : decode cX7_hasCome 21 = .ok (.getfield 134, 3) := by decide +kernel
theorem dX7_hasCome_24 : decode cX7_hasCome 24 = .ok (.iaload, 1) := by decide +kernel
theorem dX7_hasCome_25 : decode cX7_hasCome 25 = .ok (.if_icmp .lt 7, 3) := by decide +kernel
theorem dX7_hasCome_28 : decode cX7_hasCome 28 = .ok (.iconst 1, 1) := by decide +kernel
theorem dX7_hasCome_29 : decode cX7_hasCome 29 = .ok (.goto 4, 3) := by decide +kernel
theorem dX7_hasCome_32 : decode cX7_hasCome 32 = .ok (.iconst 0, 1) := by decide +kernel
theorem dX7_hasCome_33 : decode cX7_hasCome 33 = .ok (.ireturn, 1) := by decide +kernel
theorem dX7_hasCome_34 : decode cX7_hasCome 34 = .ok (.iconst 0, 1) := by decide +kernel
theorem dX7_hasCome_35 : decode cX7_hasCome 35 = .ok (.istore_n 1, 1) := by decide +kernel
theorem dX7_hasCome_36 : decode cX7_hasCome 36 = .ok (.dconst 0, 1) := by decide +kernel
theorem dX7_hasCome_37 : decode cX7_hasCome 37 = .ok (.dstore_n 2, 1) := by decide +kernel
theorem dX7_hasCome_38 : decode cX7_hasCome 38 = .ok (.iconst 0, 1) := by decide +kernel
theorem dX7_hasCome_39 : decode cX7_hasCome 39 = .ok (.istore 4, 2) := by decide +kernel
theorem dX7_hasCome_41 : decode cX7_hasCome 41 = .ok (.iload 4, 2) := by decide +kernel
theorem dX7_hasCome_43 : decode cX7_hasCome 43 = .ok (.aload_n 0, 1) := by decide +kernel
theorem dX7_hasCome_44 : decode cX7_hasCome 44 = .ok (.getfield 75, 3) := by decide +kernel
theorem dX7_hasCome_47 : decode cX7_hasCome 47 = .ok (.if_icmp .ge 47, 3) := by decide +kernel
theorem dX7_hasCome_50 : decode cX7_hasCome 50 = .ok (.aload_n 0, 1) := by decide +kernel
theorem dX7_hasCome_51 : decode cX7_hasCome 51 = .ok (.getfield 30, 3) := by decide +kernel
theorem dX7_hasCome_54 : decode cX7_hasCome 54 = .ok (.iload 4, 2) := by decide +kernel
theorem dX7_hasCome_56 : decode cX7_hasCome 56 = .ok (.baload, 1) := by decide +kernel
theorem dX7_hasCome_57 : decode cX7_hasCome 57 = .ok (.ifCond .eq 31, 3) := by decide +kernel
theorem dX7_hasCome_60 : decode cX7_hasCome 60 = .ok (.iload_n 1, 1) := by decide +kernel
theorem dX7_hasCome_61 : decode cX7_hasCome 61 = .ok (.ifCond .eq 14, 3) := by decide +kernel
theorem dX7_hasCome_64 : decode cX7_hasCome 64 = .ok (.aload_n 0, 1) := by decide +kernel
theorem dX7_hasCome_65 : decode cX7_hasCome 65 = .ok (.iload 4, 2) := by decide +kernel
theorem dX7_hasCome_67 : decode cX7_hasCome 67 = .ok (.invokevirtual 155, 3) := by decide +kernel
theorem dX7_hasCome_70 : decode cX7_hasCome 70 = .ok (.dload_n 2, 1) := by decide +kernel
theorem dX7_hasCome_71 : decode cX7_hasCome 71 = .ok (.dcmp .l, 1) := by decide +kernel
theorem dX7_hasCome_72 : decode cX7_hasCome 72 = .ok (.ifCond .le 12, 3) := by decide +kernel
theorem dX7_hasCome_75 : decode cX7_hasCome 75 = .ok (.aload_n 0, 1) := by decide +kernel
theorem dX7_hasCome_76 : decode cX7_hasCome 76 = .ok (.iload 4, 2) := by decide +kernel
theorem dX7_hasCome_78 : decode cX7_hasCome 78 = .ok (.invokevirtual 155, 3) := by decide +kernel
theorem dX7_hasCome_81 : decode cX7_hasCome 81 = .ok (.goto 4, 3) := by decide +kernel
theorem dX7_hasCome_84 : decode cX7_hasCome 84 = .ok (.dload_n 2, 1) := by decide +kernel
theorem dX7_hasCome_85 : decode cX7_hasCome 85 = .ok (.dstore_n 2, 1) := by decide +kernel
theorem dX7_hasCome_86 : decode cX7_hasCome 86 = .ok (.iconst 1, 1) := by decide +kernel
theorem dX7_hasCome_87 : decode cX7_hasCome 87 = .ok (.istore_n 1, 1) := by decide +kernel
theorem dX7_hasCome_88 : decode cX7_hasCome 88 = .ok (.iinc 4 1, 3) := by decide +kernel
theorem dX7_hasCome_91 : decode cX7_hasCome 91 = .ok (.goto (-50), 3) := by decide +kernel
theorem dX7_hasCome_94 : decode cX7_hasCome 94 = .ok (.iload_n 1, 1) := by decide +kernel
theorem dX7_hasCome_95 : decode cX7_hasCome 95 = .ok (.ifCond .eq 26, 3) := by decide +kernel
theorem dX7_hasCome_98 : decode cX7_hasCome 98 = .ok (.dload_n 2, 1) := by decide +kernel
theorem dX7_hasCome_99 : decode cX7_hasCome 99 = .ok (.aload_n 0, 1) := by decide +kernel
theorem dX7_hasCome_100 : decode cX7_hasCome 100 = .ok (.getfield 62, 3) := by decide +kernel
theorem dX7_hasCome_103 : decode cX7_hasCome 103 = .ok (.aload_n 0, 1) := by decide +kernel
theorem dX7_hasCome_104 : decode cX7_hasCome 104 = .ok (.getfield 134, 3) := by decide +kernel
theorem dX7_hasCome_107 : decode cX7_hasCome 107 = .ok (.iaload, 1) := by decide +kernel
theorem dX7_hasCome_108 : decode cX7_hasCome 108 = .ok (.i2d, 1) := by decide +kernel
theorem dX7_hasCome_109 : decode cX7_hasCome 109 = .ok (.ldc2_w 158, 3) := by decide +kernel
theorem dX7_hasCome_112 : decode cX7_hasCome 112 = .ok (.ddiv, 1) := by decide +kernel
theorem dX7_hasCome_113 : decode cX7_hasCome 113 = .ok (.dcmp .g, 1) := by decide +kernel
theorem dX7_hasCome_114 : decode cX7_hasCome 114 = .ok (.ifCond .gt 7, 3) := by decide +kernel
theorem dX7_hasCome_117 : decode cX7_hasCome 117 = .ok (.iconst 1, 1) := by decide +kernel
theorem dX7_hasCome_118 : decode cX7_hasCome 118 = .ok (.goto 4, 3) := by decide +kernel
theorem dX7_hasCome_121 : decode cX7_hasCome 121 = .ok (.iconst 0, 1) := by decide +kernel
theorem dX7_hasCome_122 : decode cX7_hasCome 122 = .ok (.ireturn, 1) := by decide +kernel
theorem dX7_flow_0 : decode cX7_flow 0 = .ok (.bipush 16, 2) := by decide +kernel
theorem dX7_flow_2 : decode cX7_flow 2 = .ok (.iload_n 1, 1) := by decide +kernel
theorem dX7_flow_3 : decode cX7_flow 3 = .ok (.imul, 1) := by decide +kernel
theorem dX7_flow_4 : decode cX7_flow 4 = .ok (.iload_n 2, 1) := by decide +kernel
theorem dX7_flow_5 : decode cX7_flow 5 = .ok (.iadd, 1) := by decide +kernel
theorem dX7_flow_6 : decode cX7_flow 6 = .ok (.istore_n 3, 1) := by decide +kernel
theorem dX7_flow_7 : decode cX7_flow 7 = .ok (.aload_n 0, 1) := by decide +kernel
theorem dX7_flow_8 : decode cX7_flow 8 = .ok (.getfield 34, 3) := by decide +kernel
theorem dX7_flow_11 : decode cX7_flow 11 = .ok (.iload_n 1, 1) := by decide +kernel
theorem dX7_flow_12 : decode cX7_flow 12 = .ok (.daload, 1) := by decide +kernel
theorem dX7_flow_13 : decode cX7_flow 13 = .ok (.dstore 4, 2) := by decide +kernel
theorem dX7_flow_15 : decode cX7_flow 15 = .ok (.aload_n 0, 1) := by decide +kernel
theorem dX7_flow_16 : decode cX7_flow 16 = .ok (.getfield 7, 3) := by decide +kernel
theorem dX7_flow_19 : decode cX7_flow 19 = .ok (.aload_n 0, 1) := by decide +kernel
theorem dX7_flow_20 : decode cX7_flow 20 = .ok (.getfield 37, 3) := by decide +kernel
theorem dX7_flow_23 : decode cX7_flow 23 = .ok (.iload_n 1, 1) := by decide +kernel
theorem dX7_flow_24 : decode cX7_flow 24 = .ok (.iaload, 1) := by decide +kernel
theorem dX7_flow_25 : decode cX7_flow 25 = .ok (.daload, 1) := by decide +kernel
theorem dX7_flow_26 : decode cX7_flow 26 = .ok (.aload_n 0, 1) := by decide +kernel
theorem dX7_flow_27 : decode cX7_flow 27 = .ok (.getfield 13, 3) := by decide +kernel
theorem dX7_flow_30 : decode cX7_flow 30 = .ok (.aload_n 0, 1) := by decide +kernel
theorem dX7_flow_31 : decode cX7_flow 31 = .ok (.getfield 37, 3) := by decide +kernel
theorem dX7_flow_34 : decode cX7_flow 34 = .ok (.iload_n 1, 1) := by decide +kernel
theorem dX7_flow_35 : decode cX7_flow 35 = .ok (.iaload, 1) := by decide +kernel
theorem dX7_flow_36 : decode cX7_flow 36 = .ok (.daload, 1) := by decide +kernel
theorem dX7_flow_37 : decode cX7_flow 37 = .ok (.aload_n 0, 1) := by decide +kernel
theorem dX7_flow_38 : decode cX7_flow 38 = .ok (.getfield 41, 3) := by decide +kernel
theorem dX7_flow_41 : decode cX7_flow 41 = .ok (.iload_n 3, 1) := by decide +kernel
theorem dX7_flow_42 : decode cX7_flow 42 = .ok (.daload, 1) := by decide +kernel
theorem dX7_flow_43 : decode cX7_flow 43 = .ok (.aload_n 0, 1) := by decide +kernel
theorem dX7_flow_44 : decode cX7_flow 44 = .ok (.getfield 41, 3) := by decide +kernel
theorem dX7_flow_47 : decode cX7_flow 47 = .ok (.iload_n 3, 1) := by decide +kernel
theorem dX7_flow_48 : decode cX7_flow 48 = .ok (.iconst 1, 1) := by decide +kernel
theorem dX7_flow_49 : decode cX7_flow 49 = .ok (.iadd, 1) := by decide +kernel
theorem dX7_flow_50 : decode cX7_flow 50 = .ok (.daload, 1) := by decide +kernel
theorem dX7_flow_51 : decode cX7_flow 51 = .ok (.dadd, 1) := by decide +kernel
theorem dX7_flow_52 : decode cX7_flow 52 = .ok (.ldc2_w 160, 3) := by decide +kernel
theorem dX7_flow_55 : decode cX7_flow 55 = .ok (.ddiv, 1) := by decide +kernel
theorem dX7_flow_56 : decode cX7_flow 56 = .ok (.dmul, 1) := by decide +kernel
theorem dX7_flow_57 : decode cX7_flow 57 = .ok (.dadd, 1) := by decide +kernel
theorem dX7_flow_58 : decode cX7_flow 58 = .ok (.aload_n 0, 1) := by decide +kernel
theorem dX7_flow_59 : decode cX7_flow 59 = .ok (.getfield 41, 3) := by decide +kernel
theorem dX7_flow_62 : decode cX7_flow 62 = .ok (.iload_n 3, 1) := by decide +kernel
theorem dX7_flow_63 : decode cX7_flow 63 = .ok (.daload, 1) := by decide +kernel
theorem dX7_flow_64 : decode cX7_flow 64 = .ok (.aload_n 0, 1) := by decide +kernel
theorem dX7_flow_65 : decode cX7_flow 65 = .ok (.getfield 41, 3) := by decide +kernel
theorem dX7_flow_68 : decode cX7_flow 68 = .ok (.iload_n 3, 1) := by decide +kernel
theorem dX7_flow_69 : decode cX7_flow 69 = .ok (.iconst 1, 1) := by decide +kernel
theorem dX7_flow_70 : decode cX7_flow 70 = .ok (.iadd, 1) := by decide +kernel
theorem dX7_flow_71 : decode cX7_flow 71 = .ok (.daload, 1) := by decide +kernel
theorem dX7_flow_72 : decode cX7_flow 72 = .ok (.dsub, 1) := by decide +kernel
theorem dX7_flow_73 : decode cX7_flow 73 = .ok (.dmul, 1) := by decide +kernel
theorem dX7_flow_74 : decode cX7_flow 74 = .ok (.dload 4, 2) := by decide +kernel
theorem dX7_flow_76 : decode cX7_flow 76 = .ok (.dload 4, 2) := by decide +kernel
theorem dX7_flow_78 : decode cX7_flow 78 = .ok (.dmul, 1) := by decide +kernel
theorem dX7_flow_79 : decode cX7_flow 79 = .ok (.ddiv, 1) := by decide +kernel
theorem dX7_flow_80 : decode cX7_flow 80 = .ok (.dreturn, 1) := by decide +kernel
theorem dX7_hourOf_0 : decode cX7_hourOf 0 = .ok (.bipush 16, 2) := by decide +kernel
theorem dX7_hourOf_2 : decode cX7_hourOf 2 = .ok (.iload_n 1, 1) := by decide +kernel
theorem dX7_hourOf_3 : decode cX7_hourOf 3 = .ok (.imul, 1) := by decide +kernel
theorem dX7_hourOf_4 : decode cX7_hourOf 4 = .ok (.istore_n 2, 1) := by decide +kernel
theorem dX7_hourOf_5 : decode cX7_hourOf 5 = .ok (.aload_n 0, 1) := by decide +kernel
theorem dX7_hourOf_6 : decode cX7_hourOf 6 = .ok (.getfield 71, 3) := by decide +kernel
theorem dX7_hourOf_9 : decode cX7_hourOf 9 = .ok (.iconst 1, 1) := by decide +kernel
theorem dX7_hourOf_10 : decode cX7_hourOf 10 = .ok (.isub, 1) := by decide +kernel
theorem dX7_hourOf_11 : decode cX7_hourOf 11 = .ok (.istore_n 3, 1) := by decide +kernel
theorem dX7_hourOf_12 : decode cX7_hourOf 12 = .ok (.aload_n 0, 1) := by decide +kernel
theorem dX7_hourOf_13 : decode cX7_hourOf 13 = .ok (.getfield 34, 3) := by decide +kernel
theorem dX7_hourOf_16 : decode cX7_hourOf 16 = .ok (.iload_n 1, 1) := by decide +kernel
theorem dX7_hourOf_17 : decode cX7_hourOf 17 = .ok (.daload, 1) := by decide +kernel
theorem dX7_hourOf_18 : decode cX7_hourOf 18 = .ok (.dstore 4, 2) := by decide +kernel
theorem dX7_hourOf_20 : decode cX7_hourOf 20 = .ok (.aload_n 0, 1) := by decide +kernel
theorem dX7_hourOf_21 : decode cX7_hourOf 21 = .ok (.getfield 27, 3) := by decide +kernel
theorem dX7_hourOf_24 : decode cX7_hourOf 24 = .ok (.aload_n 0, 1) := by decide +kernel
theorem dX7_hourOf_25 : decode cX7_hourOf 25 = .ok (.getfield 41, 3) := by decide +kernel
theorem dX7_hourOf_28 : decode cX7_hourOf 28 = .ok (.iload_n 2, 1) := by decide +kernel
theorem dX7_hourOf_29 : decode cX7_hourOf 29 = .ok (.daload, 1) := by decide +kernel
theorem dX7_hourOf_30 : decode cX7_hourOf 30 = .ok (.aload_n 0, 1) := by decide +kernel
theorem dX7_hourOf_31 : decode cX7_hourOf 31 = .ok (.invokevirtual 162, 3) := by decide +kernel
theorem dX7_hourOf_34 : decode cX7_hourOf 34 = .ok (.dsub, 1) := by decide +kernel
theorem dX7_hourOf_35 : decode cX7_hourOf 35 = .ok (.dmul, 1) := by decide +kernel
theorem dX7_hourOf_36 : decode cX7_hourOf 36 = .ok (.ldc2_w 93, 3) := by decide +kernel
theorem dX7_hourOf_39 : decode cX7_hourOf 39 = .ok (.dload 4, 2) := by decide +kernel
theorem dX7_hourOf_41 : decode cX7_hourOf 41 = .ok (.dmul, 1) := by decide +kernel
theorem dX7_hourOf_42 : decode cX7_hourOf 42 = .ok (.ddiv, 1) := by decide +kernel
theorem dX7_hourOf_43 : decode cX7_hourOf 43 = .ok (.dstore 6, 2) := by decide +kernel
theorem dX7_hourOf_45 : decode cX7_hourOf 45 = .ok (.aload_n 0, 1) := by decide +kernel
theorem dX7_hourOf_46 : decode cX7_hourOf 46 = .ok (.getfield 27, 3) := by decide +kernel
theorem dX7_hourOf_49 : decode cX7_hourOf 49 = .ok (.aload_n 0, 1) := by decide +kernel
theorem dX7_hourOf_50 : decode cX7_hourOf 50 = .ok (.getfield 41, 3) := by decide +kernel
theorem dX7_hourOf_53 : decode cX7_hourOf 53 = .ok (.iload_n 2, 1) := by decide +kernel
theorem dX7_hourOf_54 : decode cX7_hourOf 54 = .ok (.iload_n 3, 1) := by decide +kernel
theorem dX7_hourOf_55 : decode cX7_hourOf 55 = .ok (.iadd, 1) := by decide +kernel
theorem dX7_hourOf_56 : decode cX7_hourOf 56 = .ok (.daload, 1) := by decide +kernel
theorem dX7_hourOf_57 : decode cX7_hourOf 57 = .ok (.aload_n 0, 1) := by decide +kernel
theorem dX7_hourOf_58 : decode cX7_hourOf 58 = .ok (.invokevirtual 162, 3) := by decide +kernel
theorem dX7_hourOf_61 : decode cX7_hourOf 61 = .ok (.dsub, 1) := by decide +kernel
theorem dX7_hourOf_62 : decode cX7_hourOf 62 = .ok (.dmul, 1) := by decide +kernel
theorem dX7_hourOf_63 : decode cX7_hourOf 63 = .ok (.ldc2_w 93, 3) := by decide +kernel
theorem dX7_hourOf_66 : decode cX7_hourOf 66 = .ok (.dload 4, 2) := by decide +kernel
theorem dX7_hourOf_68 : decode cX7_hourOf 68 = .ok (.dmul, 1) := by decide +kernel
theorem dX7_hourOf_69 : decode cX7_hourOf 69 = .ok (.ddiv, 1) := by decide +kernel
theorem dX7_hourOf_70 : decode cX7_hourOf 70 = .ok (.dstore 8, 2) := by decide +kernel
theorem dX7_hourOf_72 : decode cX7_hourOf 72 = .ok (.iconst 0, 1) := by decide +kernel
theorem dX7_hourOf_73 : decode cX7_hourOf 73 = .ok (.istore 10, 2) := by decide +kernel
theorem dX7_hourOf_75 : decode cX7_hourOf 75 = .ok (.iload 10, 2) := by decide +kernel
theorem dX7_hourOf_77 : decode cX7_hourOf 77 = .ok (.aload_n 0, 1) := by decide +kernel
theorem dX7_hourOf_78 : decode cX7_hourOf 78 = .ok (.getfield 71, 3) := by decide +kernel
theorem dX7_hourOf_81 : decode cX7_hourOf 81 = .ok (.if_icmp .ge 116, 3) := by decide +kernel
theorem dX7_hourOf_84 : decode cX7_hourOf 84 = .ok (.aload_n 0, 1) := by decide +kernel
theorem dX7_hourOf_85 : decode cX7_hourOf 85 = .ok (.getfield 41, 3) := by decide +kernel
theorem dX7_hourOf_88 : decode cX7_hourOf 88 = .ok (.iload_n 2, 1) := by decide +kernel
theorem dX7_hourOf_89 : decode cX7_hourOf 89 = .ok (.iload 10, 2) := by decide +kernel
theorem dX7_hourOf_91 : decode cX7_hourOf 91 = .ok (.iadd, 1) := by decide +kernel
theorem dX7_hourOf_92 : decode cX7_hourOf 92 = .ok (.daload, 1) := by decide +kernel
theorem dX7_hourOf_93 : decode cX7_hourOf 93 = .ok (.dstore 11, 2) := by decide +kernel
theorem dX7_hourOf_95 : decode cX7_hourOf 95 = .ok (.iload_n 3, 1) := by decide +kernel
theorem dX7_hourOf_96 : decode cX7_hourOf 96 = .ok (.ifCond .ne 16, 3) := by decide +kernel
theorem dX7_hourOf_99 : decode cX7_hourOf 99 = .ok (.dload 11, 2) := by decide +kernel
theorem dX7_hourOf_101 : decode cX7_hourOf 101 = .ok (.dload 6, 2) := by decide +kernel
theorem dX7_hourOf_103 : decode cX7_hourOf 103 = .ok (.dsub, 1) := by decide +kernel
theorem dX7_hourOf_104 : decode cX7_hourOf 104 = .ok (.dload 8, 2) := by decide +kernel
theorem dX7_hourOf_106 : decode cX7_hourOf 106 = .ok (.dsub, 1) := by decide +kernel
theorem dX7_hourOf_107 : decode cX7_hourOf 107 = .ok (.dstore 11, 2) := by decide +kernel
theorem dX7_hourOf_109 : decode cX7_hourOf 109 = .ok (.goto 73, 3) := by decide +kernel
theorem dX7_hourOf_112 : decode cX7_hourOf 112 = .ok (.iload 10, 2) := by decide +kernel
theorem dX7_hourOf_114 : decode cX7_hourOf 114 = .ok (.ifCond .ne 20, 3) := by decide +kernel
theorem dX7_hourOf_117 : decode cX7_hourOf 117 = .ok (.dload 11, 2) := by decide +kernel
theorem dX7_hourOf_119 : decode cX7_hourOf 119 = .ok (.dload 6, 2) := by decide +kernel
theorem dX7_hourOf_121 : decode cX7_hourOf 121 = .ok (.dsub, 1) := by decide +kernel
theorem dX7_hourOf_122 : decode cX7_hourOf 122 = .ok (.aload_n 0, 1) := by decide +kernel
theorem dX7_hourOf_123 : decode cX7_hourOf 123 = .ok (.iload_n 1, 1) := by decide +kernel
theorem dX7_hourOf_124 : decode cX7_hourOf 124 = .ok (.iconst 0, 1) := by decide +kernel
theorem dX7_hourOf_125 : decode cX7_hourOf 125 = .ok (.invokevirtual 166, 3) := by decide +kernel
theorem dX7_hourOf_128 : decode cX7_hourOf 128 = .ok (.dsub, 1) := by decide +kernel
theorem dX7_hourOf_129 : decode cX7_hourOf 129 = .ok (.dstore 11, 2) := by decide +kernel
theorem dX7_hourOf_131 : decode cX7_hourOf 131 = .ok (.goto 51, 3) := by decide +kernel
theorem dX7_hourOf_134 : decode cX7_hourOf 134 = .ok (.iload 10, 2) := by decide +kernel
theorem dX7_hourOf_136 : decode cX7_hourOf 136 = .ok (.iload_n 3, 1) := by decide +kernel
theorem dX7_hourOf_137 : decode cX7_hourOf 137 = .ok (.if_icmp .ne 23, 3) := by decide +kernel
theorem dX7_hourOf_140 : decode cX7_hourOf 140 = .ok (.dload 11, 2) := by decide +kernel
theorem dX7_hourOf_142 : decode cX7_hourOf 142 = .ok (.aload_n 0, 1) := by decide +kernel
theorem dX7_hourOf_143 : decode cX7_hourOf 143 = .ok (.iload_n 1, 1) := by decide +kernel
theorem dX7_hourOf_144 : decode cX7_hourOf 144 = .ok (.iload 10, 2) := by decide +kernel
theorem dX7_hourOf_146 : decode cX7_hourOf 146 = .ok (.iconst 1, 1) := by decide +kernel
theorem dX7_hourOf_147 : decode cX7_hourOf 147 = .ok (.isub, 1) := by decide +kernel
theorem dX7_hourOf_148 : decode cX7_hourOf 148 = .ok (.invokevirtual 166, 3) := by decide +kernel
theorem dX7_hourOf_151 : decode cX7_hourOf 151 = .ok (.dadd, 1) := by decide +kernel
theorem dX7_hourOf_152 : decode cX7_hourOf 152 = .ok (.dload 8, 2) := by decide +kernel
theorem dX7_hourOf_154 : decode cX7_hourOf 154 = .ok (.dsub, 1) := by decide +kernel
theorem dX7_hourOf_155 : decode cX7_hourOf 155 = .ok (.dstore 11, 2) := by decide +kernel
theorem dX7_hourOf_157 : decode cX7_hourOf 157 = .ok (.goto 25, 3) := by decide +kernel
theorem dX7_hourOf_160 : decode cX7_hourOf 160 = .ok (.dload 11, 2) := by decide +kernel
theorem dX7_hourOf_162 : decode cX7_hourOf 162 = .ok (.aload_n 0, 1) := by decide +kernel
theorem dX7_hourOf_163 : decode cX7_hourOf 163 = .ok (.iload_n 1, 1) := by decide +kernel
theorem dX7_hourOf_164 : decode cX7_hourOf 164 = .ok (.iload 10, 2) := by decide +kernel
theorem dX7_hourOf_166 : decode cX7_hourOf 166 = .ok (.iconst 1, 1) := by decide +kernel
theorem dX7_hourOf_167 : decode cX7_hourOf 167 = .ok (.isub, 1) := by decide +kernel
theorem dX7_hourOf_168 : decode cX7_hourOf 168 = .ok (.invokevirtual 166, 3) := by decide +kernel
theorem dX7_hourOf_171 : decode cX7_hourOf 171 = .ok (.dadd, 1) := by decide +kernel
theorem dX7_hourOf_172 : decode cX7_hourOf 172 = .ok (.aload_n 0, 1) := by decide +kernel
theorem dX7_hourOf_173 : decode cX7_hourOf 173 = .ok (.iload_n 1, 1) := by decide +kernel
theorem dX7_hourOf_174 : decode cX7_hourOf 174 = .ok (.iload 10, 2) := by decide +kernel
theorem dX7_hourOf_176 : decode cX7_hourOf 176 = .ok (.invokevirtual 166, 3) := by decide +kernel
theorem dX7_hourOf_179 : decode cX7_hourOf 179 = .ok (.dsub, 1) := by decide +kernel
theorem dX7_hourOf_180 : decode cX7_hourOf 180 = .ok (.dstore 11, 2) := by decide +kernel
theorem dX7_hourOf_182 : decode cX7_hourOf 182 = .ok (.aload_n 0, 1) := by decide +kernel
theorem dX7_hourOf_183 : decode cX7_hourOf 183 = .ok (.getfield 44, 3) := by decide +kernel
theorem dX7_hourOf_186 : decode cX7_hourOf 186 = .ok (.iload 10, 2) := by decide +kernel
theorem dX7_hourOf_188 : decode cX7_hourOf 188 = .ok (.dload 11, 2) := by decide +kernel
theorem dX7_hourOf_190 : decode cX7_hourOf 190 = .ok (.dastore, 1) := by decide +kernel
theorem dX7_hourOf_191 : decode cX7_hourOf 191 = .ok (.iinc 10 1, 3) := by decide +kernel
theorem dX7_hourOf_194 : decode cX7_hourOf 194 = .ok (.goto (-119), 3) := by decide +kernel
theorem dX7_hourOf_197 : decode cX7_hourOf 197 = .ok (.iconst 0, 1) := by decide +kernel
theorem dX7_hourOf_198 : decode cX7_hourOf 198 = .ok (.istore 10, 2) := by decide +kernel
theorem dX7_hourOf_200 : decode cX7_hourOf 200 = .ok (.iload 10, 2) := by decide +kernel
theorem dX7_hourOf_202 : decode cX7_hourOf 202 = .ok (.aload_n 0, 1) := by decide +kernel
theorem dX7_hourOf_203 : decode cX7_hourOf 203 = .ok (.getfield 71, 3) := by decide +kernel
theorem dX7_hourOf_206 : decode cX7_hourOf 206 = .ok (.if_icmp .ge 25, 3) := by decide +kernel
theorem dX7_hourOf_209 : decode cX7_hourOf 209 = .ok (.aload_n 0, 1) := by decide +kernel
theorem dX7_hourOf_210 : decode cX7_hourOf 210 = .ok (.getfield 41, 3) := by decide +kernel
theorem dX7_hourOf_213 : decode cX7_hourOf 213 = .ok (.iload_n 2, 1) := by decide +kernel
theorem dX7_hourOf_214 : decode cX7_hourOf 214 = .ok (.iload 10, 2) := by decide +kernel
theorem dX7_hourOf_216 : decode cX7_hourOf 216 = .ok (.iadd, 1) := by decide +kernel
theorem dX7_hourOf_217 : decode cX7_hourOf 217 = .ok (.aload_n 0, 1) := by decide +kernel
theorem dX7_hourOf_218 : decode cX7_hourOf 218 = .ok (.getfield 44, 3) := by decide +kernel
theorem dX7_hourOf_221 : decode cX7_hourOf 221 = .ok (.iload 10, 2) := by decide +kernel
theorem dX7_hourOf_223 : decode cX7_hourOf 223 = .ok (.daload, 1) := by decide +kernel
theorem dX7_hourOf_224 : decode cX7_hourOf 224 = .ok (.dastore, 1) := by decide +kernel
theorem dX7_hourOf_225 : decode cX7_hourOf 225 = .ok (.iinc 10 1, 3) := by decide +kernel
theorem dX7_hourOf_228 : decode cX7_hourOf 228 = .ok (.goto (-28), 3) := by decide +kernel
theorem dX7_hourOf_231 : decode cX7_hourOf 231 = .ok (.dload 6, 2) := by decide +kernel
theorem dX7_hourOf_233 : decode cX7_hourOf 233 = .ok (.dload 8, 2) := by decide +kernel
theorem dX7_hourOf_235 : decode cX7_hourOf 235 = .ok (.dadd, 1) := by decide +kernel
theorem dX7_hourOf_236 : decode cX7_hourOf 236 = .ok (.dload 4, 2) := by decide +kernel
theorem dX7_hourOf_238 : decode cX7_hourOf 238 = .ok (.dmul, 1) := by decide +kernel
theorem dX7_hourOf_239 : decode cX7_hourOf 239 = .ok (.ldc2_w 170, 3) := by decide +kernel
theorem dX7_hourOf_242 : decode cX7_hourOf 242 = .ok (.dmul, 1) := by decide +kernel
theorem dX7_hourOf_243 : decode cX7_hourOf 243 = .ok (.dstore 10, 2) := by decide +kernel
theorem dX7_hourOf_245 : decode cX7_hourOf 245 = .ok (.aload_n 0, 1) := by decide +kernel
theorem dX7_hourOf_246 : decode cX7_hourOf 246 = .ok (.aload_n 0, 1) := by decide +kernel
theorem dX7_hourOf_247 : decode cX7_hourOf 247 = .ok (.getfield 172, 3) := by decide +kernel
theorem dX7_hourOf_250 : decode cX7_hourOf 250 = .ok (.dload 10, 2) := by decide +kernel
theorem dX7_hourOf_252 : decode cX7_hourOf 252 = .ok (.dadd, 1) := by decide +kernel
theorem dX7_hourOf_253 : decode cX7_hourOf 253 = .ok (.putfield 172, 3) := by decide +kernel
theorem dX7_hourOf_256 : decode cX7_hourOf 256 = .ok (.aload_n 0, 1) := by decide +kernel
theorem dX7_hourOf_257 : decode cX7_hourOf 257 = .ok (.getfield 172, 3) := by decide +kernel
theorem dX7_hourOf_260 : decode cX7_hourOf 260 = .ok (.d2l, 1) := by decide +kernel
theorem dX7_hourOf_261 : decode cX7_hourOf 261 = .ok (.lstore 12, 2) := by decide +kernel
theorem dX7_hourOf_263 : decode cX7_hourOf 263 = .ok (.aload_n 0, 1) := by decide +kernel
theorem dX7_hourOf_264 : decode cX7_hourOf 264 = .ok (.aload_n 0, 1) := by decide +kernel
theorem dX7_hourOf_265 : decode cX7_hourOf 265 = .ok (.getfield 172, 3) := by decide +kernel
theorem dX7_hourOf_268 : decode cX7_hourOf 268 = .ok (.lload 12, 2) := by decide +kernel
theorem dX7_hourOf_270 : decode cX7_hourOf 270 = .ok (.l2d, 1) := by decide +kernel
theorem dX7_hourOf_271 : decode cX7_hourOf 271 = .ok (.dsub, 1) := by decide +kernel
theorem dX7_hourOf_272 : decode cX7_hourOf 272 = .ok (.putfield 172, 3) := by decide +kernel
theorem dX7_hourOf_275 : decode cX7_hourOf 275 = .ok (.aload_n 0, 1) := by decide +kernel
theorem dX7_hourOf_276 : decode cX7_hourOf 276 = .ok (.aload_n 0, 1) := by decide +kernel
theorem dX7_hourOf_277 : decode cX7_hourOf 277 = .ok (.getfield 175, 3) := by decide +kernel
theorem dX7_hourOf_280 : decode cX7_hourOf 280 = .ok (.lload 12, 2) := by decide +kernel
theorem dX7_hourOf_282 : decode cX7_hourOf 282 = .ok (.ladd, 1) := by decide +kernel
theorem dX7_hourOf_283 : decode cX7_hourOf 283 = .ok (.putfield 175, 3) := by decide +kernel
theorem dX7_hourOf_286 : decode cX7_hourOf 286 = .ok (.aload_n 0, 1) := by decide +kernel
theorem dX7_hourOf_287 : decode cX7_hourOf 287 = .ok (.aload_n 0, 1) := by decide +kernel
theorem dX7_hourOf_288 : decode cX7_hourOf 288 = .ok (.getfield 24, 3) := by decide +kernel
theorem dX7_hourOf_291 : decode cX7_hourOf 291 = .ok (.dload 10, 2) := by decide +kernel
theorem dX7_hourOf_293 : decode cX7_hourOf 293 = .ok (.ldc2_w 179, 3) := by decide +kernel
theorem dX7_hourOf_296 : decode cX7_hourOf 296 = .ok (.ddiv, 1) := by decide +kernel
theorem dX7_hourOf_297 : decode cX7_hourOf 297 = .ok (.dconst 1, 1) := by decide +kernel
theorem dX7_hourOf_298 : decode cX7_hourOf 298 = .ok (.aload_n 0, 1) := by decide +kernel
theorem dX7_hourOf_299 : decode cX7_hourOf 299 = .ok (.getfield 99, 3) := by decide +kernel
theorem dX7_hourOf_302 : decode cX7_hourOf 302 = .ok (.dsub, 1) := by decide +kernel
theorem dX7_hourOf_303 : decode cX7_hourOf 303 = .ok (.dmul, 1) := by decide +kernel
theorem dX7_hourOf_304 : decode cX7_hourOf 304 = .ok (.dadd, 1) := by decide +kernel
theorem dX7_hourOf_305 : decode cX7_hourOf 305 = .ok (.putfield 24, 3) := by decide +kernel
theorem dX7_hourOf_308 : decode cX7_hourOf 308 = .ok (.aload_n 0, 1) := by decide +kernel
theorem dX7_hourOf_309 : decode cX7_hourOf 309 = .ok (.aload_n 0, 1) := by decide +kernel
theorem dX7_hourOf_310 : decode cX7_hourOf 310 = .ok (.getfield 24, 3) := by decide +kernel
theorem dX7_hourOf_313 : decode cX7_hourOf 313 = .ok (.dconst 0, 1) := by decide +kernel
theorem dX7_hourOf_314 : decode cX7_hourOf 314 = .ok (.dcmp .g, 1) := by decide +kernel
theorem dX7_hourOf_315 : decode cX7_hourOf 315 = .ok (.ifCond .ge 7, 3) := by decide +kernel
theorem dX7_hourOf_318 : decode cX7_hourOf 318 = .ok (.dconst 0, 1) := by decide +kernel
theorem dX7_hourOf_319 : decode cX7_hourOf 319 = .ok (.goto 20, 3) := by decide +kernel
theorem dX7_hourOf_322 : decode cX7_hourOf 322 = .ok (.aload_n 0, 1) := by decide +kernel
theorem dX7_hourOf_323 : decode cX7_hourOf 323 = .ok (.getfield 24, 3) := by decide +kernel
theorem dX7_hourOf_326 : decode cX7_hourOf 326 = .ok (.dconst 1, 1) := by decide +kernel
theorem dX7_hourOf_327 : decode cX7_hourOf 327 = .ok (.dcmp .l, 1) := by decide +kernel
theorem dX7_hourOf_328 : decode cX7_hourOf 328 = .ok (.ifCond .le 7, 3) := by decide +kernel
theorem dX7_hourOf_331 : decode cX7_hourOf 331 = .ok (.dconst 1, 1) := by decide +kernel
theorem dX7_hourOf_332 : decode cX7_hourOf 332 = .ok (.goto 7, 3) := by decide +kernel
theorem dX7_hourOf_335 : decode cX7_hourOf 335 = .ok (.aload_n 0, 1) := by decide +kernel
theorem dX7_hourOf_336 : decode cX7_hourOf 336 = .ok (.getfield 24, 3) := by decide +kernel
theorem dX7_hourOf_339 : decode cX7_hourOf 339 = .ok (.putfield 24, 3) := by decide +kernel
theorem dX7_hourOf_342 : decode cX7_hourOf 342 = .ok (.return_, 1) := by decide +kernel
theorem dX7_share_0 : decode cX7_share 0 = .ok (.aload_n 0, 1) := by decide +kernel
theorem dX7_share_1 : decode cX7_share 1 = .ok (.getfield 41, 3) := by decide +kernel
theorem dX7_share_4 : decode cX7_share 4 = .ok (.bipush 16, 2) := by decide +kernel
theorem dX7_share_6 : decode cX7_share 6 = .ok (.iload_n 1, 1) := by decide +kernel
theorem dX7_share_7 : decode cX7_share 7 = .ok (.imul, 1) := by decide +kernel
theorem dX7_share_8 : decode cX7_share 8 = .ok (.iload_n 2, 1) := by decide +kernel
theorem dX7_share_9 : decode cX7_share 9 = .ok (.iadd, 1) := by decide +kernel
theorem dX7_share_10 : decode cX7_share 10 = .ok (.daload, 1) := by decide +kernel
theorem dX7_share_11 : decode cX7_share 11 = .ok (.dstore_n 3, 1) := by decide +kernel
theorem dX7_share_12 : decode cX7_share 12 = .ok (.ldc2_w 150, 3) := by decide +kernel
theorem dX7_share_15 : decode cX7_share 15 = .ok (.ldc2_w 181, 3) := by decide +kernel
theorem dX7_share_18 : decode cX7_share 18 = .ok (.dload_n 3, 1) := by decide +kernel
theorem dX7_share_19 : decode cX7_share 19 = .ok (.ldc2_w 181, 3) := by decide +kernel
theorem dX7_share_22 : decode cX7_share 22 = .ok (.dcmp .g, 1) := by decide +kernel
theorem dX7_share_23 : decode cX7_share 23 = .ok (.ifCond .ge 7, 3) := by decide +kernel
theorem dX7_share_26 : decode cX7_share 26 = .ok (.dload_n 3, 1) := by decide +kernel
theorem dX7_share_27 : decode cX7_share 27 = .ok (.goto 6, 3) := by decide +kernel
theorem dX7_share_30 : decode cX7_share 30 = .ok (.ldc2_w 181, 3) := by decide +kernel
theorem dX7_share_33 : decode cX7_share 33 = .ok (.dsub, 1) := by decide +kernel
theorem dX7_share_34 : decode cX7_share 34 = .ok (.dmul, 1) := by decide +kernel
theorem dX7_share_35 : decode cX7_share 35 = .ok (.dreturn, 1) := by decide +kernel
theorem dX7_stressOf_0 : decode cX7_stressOf 0 = .ok (.aload_n 0, 1) := by decide +kernel
theorem dX7_stressOf_1 : decode cX7_stressOf 1 = .ok (.iload_n 1, 1) := by decide +kernel
theorem dX7_stressOf_2 : decode cX7_stressOf 2 = .ok (.iconst 0, 1) := by decide +kernel
theorem dX7_stressOf_3 : decode cX7_stressOf 3 = .ok (.invokevirtual 183, 3) := by decide +kernel
theorem dX7_stressOf_6 : decode cX7_stressOf 6 = .ok (.dstore_n 3, 1) := by decide +kernel
theorem dX7_stressOf_7 : decode cX7_stressOf 7 = .ok (.iconst 1, 1) := by decide +kernel
theorem dX7_stressOf_8 : decode cX7_stressOf 8 = .ok (.istore 5, 2) := by decide +kernel
theorem dX7_stressOf_10 : decode cX7_stressOf 10 = .ok (.iload 5, 2) := by decide +kernel
theorem dX7_stressOf_12 : decode cX7_stressOf 12 = .ok (.aload_n 0, 1) := by decide +kernel
theorem dX7_stressOf_13 : decode cX7_stressOf 13 = .ok (.getfield 71, 3) := by decide +kernel
theorem dX7_stressOf_16 : decode cX7_stressOf 16 = .ok (.if_icmp .ge 19, 3) := by decide +kernel
theorem dX7_stressOf_19 : decode cX7_stressOf 19 = .ok (.dload_n 3, 1) := by decide +kernel
theorem dX7_stressOf_20 : decode cX7_stressOf 20 = .ok (.aload_n 0, 1) := by decide +kernel
theorem dX7_stressOf_21 : decode cX7_stressOf 21 = .ok (.iload_n 1, 1) := by decide +kernel
theorem dX7_stressOf_22 : decode cX7_stressOf 22 = .ok (.iload 5, 2) := by decide +kernel
theorem dX7_stressOf_24 : decode cX7_stressOf 24 = .ok (.invokevirtual 183, 3) := by decide +kernel
theorem dX7_stressOf_27 : decode cX7_stressOf 27 = .ok (.dadd, 1) := by decide +kernel
theorem dX7_stressOf_28 : decode cX7_stressOf 28 = .ok (.dstore_n 3, 1) := by decide +kernel
theorem dX7_stressOf_29 : decode cX7_stressOf 29 = .ok (.iinc 5 1, 3) := by decide +kernel
theorem dX7_stressOf_32 : decode cX7_stressOf 32 = .ok (.goto (-22), 3) := by decide +kernel
theorem dX7_stressOf_35 : decode cX7_stressOf 35 = .ok (.aload_n 0, 1) := by decide +kernel
theorem dX7_stressOf_36 : decode cX7_stressOf 36 = .ok (.iload_n 1, 1) := by decide +kernel
theorem dX7_stressOf_37 : decode cX7_stressOf 37 = .ok (.iload_n 2, 1) := by decide +kernel
theorem dX7_stressOf_38 : decode cX7_stressOf 38 = .ok (.invokevirtual 183, 3) := by decide +kernel
theorem dX7_stressOf_41 : decode cX7_stressOf 41 = .ok (.dload_n 3, 1) := by decide +kernel
theorem dX7_stressOf_42 : decode cX7_stressOf 42 = .ok (.aload_n 0, 1) := by decide +kernel
theorem dX7_stressOf_43 : decode cX7_stressOf 43 = .ok (.getfield 71, 3) := by decide +kernel
theorem dX7_stressOf_46 : decode cX7_stressOf 46 = .ok (.i2d, 1) := by decide +kernel
theorem dX7_stressOf_47 : decode cX7_stressOf 47 = .ok (.ddiv, 1) := by decide +kernel
theorem dX7_stressOf_48 : decode cX7_stressOf 48 = .ok (.dsub, 1) := by decide +kernel
theorem dX7_stressOf_49 : decode cX7_stressOf 49 = .ok (.dreturn, 1) := by decide +kernel
theorem dX7_keep_0 : decode cX7_keep 0 = .ok (.dconst 0, 1) := by decide +kernel
theorem dX7_keep_1 : decode cX7_keep 1 = .ok (.dstore_n 2, 1) := by decide +kernel
theorem dX7_keep_2 : decode cX7_keep 2 = .ok (.iconst 0, 1) := by decide +kernel
theorem dX7_keep_3 : decode cX7_keep 3 = .ok (.istore 4, 2) := by decide +kernel
theorem dX7_keep_5 : decode cX7_keep 5 = .ok (.iload 4, 2) := by decide +kernel
theorem dX7_keep_7 : decode cX7_keep 7 = .ok (.aload_n 0, 1) := by decide +kernel
theorem dX7_keep_8 : decode cX7_keep 8 = .ok (.getfield 71, 3) := by decide +kernel
theorem dX7_keep_11 : decode cX7_keep 11 = .ok (.if_icmp .ge 49, 3) := by decide +kernel
theorem dX7_keep_14 : decode cX7_keep 14 = .ok (.aload_n 0, 1) := by decide +kernel
theorem dX7_keep_15 : decode cX7_keep 15 = .ok (.iload_n 1, 1) := by decide +kernel
theorem dX7_keep_16 : decode cX7_keep 16 = .ok (.iload 4, 2) := by decide +kernel
theorem dX7_keep_18 : decode cX7_keep 18 = .ok (.invokevirtual 186, 3) := by decide +kernel
theorem dX7_keep_21 : decode cX7_keep 21 = .ok (.dstore 5, 2) := by decide +kernel
theorem dX7_keep_23 : decode cX7_keep 23 = .ok (.dload 5, 2) := by decide +kernel
theorem dX7_keep_25 : decode cX7_keep 25 = .ok (.dconst 0, 1) := by decide +kernel
theorem dX7_keep_26 : decode cX7_keep 26 = .ok (.dcmp .g, 1) := by decide +kernel
theorem dX7_keep_27 : decode cX7_keep 27 = .ok (.ifCond .ge 9, 3) := by decide +kernel
theorem dX7_keep_30 : decode cX7_keep 30 = .ok (.dload 5, 2) := by decide +kernel
theorem dX7_keep_32 : decode cX7_keep 32 = .ok (.dneg, 1) := by decide +kernel
theorem dX7_keep_33 : decode cX7_keep 33 = .ok (.goto 5, 3) := by decide +kernel
theorem dX7_keep_36 : decode cX7_keep 36 = .ok (.dload 5, 2) := by decide +kernel
theorem dX7_keep_38 : decode cX7_keep 38 = .ok (.dstore 5, 2) := by decide +kernel
theorem dX7_keep_40 : decode cX7_keep 40 = .ok (.dload 5, 2) := by decide +kernel
theorem dX7_keep_42 : decode cX7_keep 42 = .ok (.dload_n 2, 1) := by decide +kernel
theorem dX7_keep_43 : decode cX7_keep 43 = .ok (.dcmp .l, 1) := by decide +kernel
theorem dX7_keep_44 : decode cX7_keep 44 = .ok (.ifCond .le 8, 3) := by decide +kernel
theorem dX7_keep_47 : decode cX7_keep 47 = .ok (.dload 5, 2) := by decide +kernel
theorem dX7_keep_49 : decode cX7_keep 49 = .ok (.goto 4, 3) := by decide +kernel
theorem dX7_keep_52 : decode cX7_keep 52 = .ok (.dload_n 2, 1) := by decide +kernel
theorem dX7_keep_53 : decode cX7_keep 53 = .ok (.dstore_n 2, 1) := by decide +kernel
theorem dX7_keep_54 : decode cX7_keep 54 = .ok (.iinc 4 1, 3) := by decide +kernel
theorem dX7_keep_57 : decode cX7_keep 57 = .ok (.goto (-52), 3) := by decide +kernel
theorem dX7_keep_60 : decode cX7_keep 60 = .ok (.aload_n 0, 1) := by decide +kernel
theorem dX7_keep_61 : decode cX7_keep 61 = .ok (.getfield 47, 3) := by decide +kernel
theorem dX7_keep_64 : decode cX7_keep 64 = .ok (.iload_n 1, 1) := by decide +kernel
theorem dX7_keep_65 : decode cX7_keep 65 = .ok (.baload, 1) := by decide +kernel
theorem dX7_keep_66 : decode cX7_keep 66 = .ok (.ifCond .eq 34, 3) := by decide +kernel
theorem dX7_keep_69 : decode cX7_keep 69 = .ok (.aload_n 0, 1) := by decide +kernel
theorem dX7_keep_70 : decode cX7_keep 70 = .ok (.getfield 53, 3) := by decide +kernel
theorem dX7_keep_73 : decode cX7_keep 73 = .ok (.iload_n 1, 1) := by decide +kernel
theorem dX7_keep_74 : decode cX7_keep 74 = .ok (.iaload, 1) := by decide +kernel
theorem dX7_keep_75 : decode cX7_keep 75 = .ok (.iconst (-1), 1) := by decide +kernel
theorem dX7_keep_76 : decode cX7_keep 76 = .ok (.if_icmp .ne 24, 3) := by decide +kernel
theorem dX7_keep_79 : decode cX7_keep 79 = .ok (.dload_n 2, 1) := by decide +kernel
theorem dX7_keep_80 : decode cX7_keep 80 = .ok (.aload_n 0, 1) := by decide +kernel
theorem dX7_keep_81 : decode cX7_keep 81 = .ok (.getfield 50, 3) := by decide +kernel
theorem dX7_keep_84 : decode cX7_keep 84 = .ok (.iload_n 1, 1) := by decide +kernel
theorem dX7_keep_85 : decode cX7_keep 85 = .ok (.daload, 1) := by decide +kernel
theorem dX7_keep_86 : decode cX7_keep 86 = .ok (.dcmp .l, 1) := by decide +kernel
theorem dX7_keep_87 : decode cX7_keep 87 = .ok (.ifCond .le 13, 3) := by decide +kernel
theorem dX7_keep_90 : decode cX7_keep 90 = .ok (.aload_n 0, 1) := by decide +kernel
theorem dX7_keep_91 : decode cX7_keep 91 = .ok (.getfield 53, 3) := by decide +kernel
theorem dX7_keep_94 : decode cX7_keep 94 = .ok (.iload_n 1, 1) := by decide +kernel
theorem dX7_keep_95 : decode cX7_keep 95 = .ok (.aload_n 0, 1) := by decide +kernel
theorem dX7_keep_96 : decode cX7_keep 96 = .ok (.getfield 152, 3) := by decide +kernel
theorem dX7_keep_99 : decode cX7_keep 99 = .ok (.iastore, 1) := by decide +kernel
theorem dX7_keep_100 : decode cX7_keep 100 = .ok (.return_, 1) := by decide +kernel
theorem dX7_hour_0 : decode cX7_hour 0 = .ok (.aload_n 0, 1) := by decide +kernel
theorem dX7_hour_1 : decode cX7_hour 1 = .ok (.getfield 134, 3) := by decide +kernel
theorem dX7_hour_4 : decode cX7_hour 4 = .ok (.aload_n 0, 1) := by decide +kernel
theorem dX7_hour_5 : decode cX7_hour 5 = .ok (.getfield 125, 3) := by decide +kernel
theorem dX7_hour_8 : decode cX7_hour 8 = .ok (.if_icmp .ge 52, 3) := by decide +kernel
theorem dX7_hour_11 : decode cX7_hour 11 = .ok (.aload_n 0, 1) := by decide +kernel
theorem dX7_hour_12 : decode cX7_hour 12 = .ok (.invokevirtual 189, 3) := by decide +kernel
theorem dX7_hour_15 : decode cX7_hour 15 = .ok (.ifCond .eq 45, 3) := by decide +kernel
theorem dX7_hour_18 : decode cX7_hour 18 = .ok (.aload_n 0, 1) := by decide +kernel
theorem dX7_hour_19 : decode cX7_hour 19 = .ok (.aload_n 0, 1) := by decide +kernel
theorem dX7_hour_20 : decode cX7_hour 20 = .ok (.getfield 65, 3) := by decide +kernel
theorem dX7_hour_23 : decode cX7_hour 23 = .ok (.aload_n 0, 1) := by decide +kernel
theorem dX7_hour_24 : decode cX7_hour 24 = .ok (.getfield 134, 3) := by decide +kernel
theorem dX7_hour_27 : decode cX7_hour 27 = .ok (.iaload, 1) := by decide +kernel
theorem dX7_hour_28 : decode cX7_hour 28 = .ok (.i2d, 1) := by decide +kernel
theorem dX7_hour_29 : decode cX7_hour 29 = .ok (.putfield 18, 3) := by decide +kernel
theorem dX7_hour_32 : decode cX7_hour 32 = .ok (.aload_n 0, 1) := by decide +kernel
theorem dX7_hour_33 : decode cX7_hour 33 = .ok (.aload_n 0, 1) := by decide +kernel
theorem dX7_hour_34 : decode cX7_hour 34 = .ok (.getfield 68, 3) := by decide +kernel
theorem dX7_hour_37 : decode cX7_hour 37 = .ok (.aload_n 0, 1) := by decide +kernel
theorem dX7_hour_38 : decode cX7_hour 38 = .ok (.getfield 134, 3) := by decide +kernel
theorem dX7_hour_41 : decode cX7_hour 41 = .ok (.iaload, 1) := by decide +kernel
theorem dX7_hour_42 : decode cX7_hour 42 = .ok (.i2d, 1) := by decide +kernel
theorem dX7_hour_43 : decode cX7_hour 43 = .ok (.ldc2_w 158, 3) := by decide +kernel
theorem dX7_hour_46 : decode cX7_hour 46 = .ok (.ddiv, 1) := by decide +kernel
theorem dX7_hour_47 : decode cX7_hour 47 = .ok (.putfield 24, 3) := by decide +kernel
theorem dX7_hour_50 : decode cX7_hour 50 = .ok (.aload_n 0, 1) := by decide +kernel
theorem dX7_hour_51 : decode cX7_hour 51 = .ok (.dup, 1) := by decide +kernel
theorem dX7_hour_52 : decode cX7_hour 52 = .ok (.getfield 134, 3) := by decide +kernel
theorem dX7_hour_55 : decode cX7_hour 55 = .ok (.iconst 1, 1) := by decide +kernel
theorem dX7_hour_56 : decode cX7_hour 56 = .ok (.iadd, 1) := by decide +kernel
theorem dX7_hour_57 : decode cX7_hour 57 = .ok (.putfield 134, 3) := by decide +kernel
theorem dX7_hour_60 : decode cX7_hour 60 = .ok (.iconst 0, 1) := by decide +kernel
theorem dX7_hour_61 : decode cX7_hour 61 = .ok (.istore_n 1, 1) := by decide +kernel
theorem dX7_hour_62 : decode cX7_hour 62 = .ok (.iload_n 1, 1) := by decide +kernel
theorem dX7_hour_63 : decode cX7_hour 63 = .ok (.aload_n 0, 1) := by decide +kernel
theorem dX7_hour_64 : decode cX7_hour 64 = .ok (.getfield 75, 3) := by decide +kernel
theorem dX7_hour_67 : decode cX7_hour 67 = .ok (.if_icmp .ge 23, 3) := by decide +kernel
theorem dX7_hour_70 : decode cX7_hour 70 = .ok (.aload_n 0, 1) := by decide +kernel
theorem dX7_hour_71 : decode cX7_hour 71 = .ok (.getfield 30, 3) := by decide +kernel
theorem dX7_hour_74 : decode cX7_hour 74 = .ok (.iload_n 1, 1) := by decide +kernel
theorem dX7_hour_75 : decode cX7_hour 75 = .ok (.baload, 1) := by decide +kernel
theorem dX7_hour_76 : decode cX7_hour 76 = .ok (.ifCond .eq 8, 3) := by decide +kernel
theorem dX7_hour_79 : decode cX7_hour 79 = .ok (.aload_n 0, 1) := by decide +kernel
theorem dX7_hour_80 : decode cX7_hour 80 = .ok (.iload_n 1, 1) := by decide +kernel
theorem dX7_hour_81 : decode cX7_hour 81 = .ok (.invokevirtual 192, 3) := by decide +kernel
theorem dX7_hour_84 : decode cX7_hour 84 = .ok (.iinc 1 1, 3) := by decide +kernel
theorem dX7_hour_87 : decode cX7_hour 87 = .ok (.goto (-25), 3) := by decide +kernel
theorem dX7_hour_90 : decode cX7_hour 90 = .ok (.aload_n 0, 1) := by decide +kernel
theorem dX7_hour_91 : decode cX7_hour 91 = .ok (.dup, 1) := by decide +kernel
theorem dX7_hour_92 : decode cX7_hour 92 = .ok (.getfield 152, 3) := by decide +kernel
theorem dX7_hour_95 : decode cX7_hour 95 = .ok (.iconst 1, 1) := by decide +kernel
theorem dX7_hour_96 : decode cX7_hour 96 = .ok (.iadd, 1) := by decide +kernel
theorem dX7_hour_97 : decode cX7_hour 97 = .ok (.putfield 152, 3) := by decide +kernel
theorem dX7_hour_100 : decode cX7_hour 100 = .ok (.iconst 0, 1) := by decide +kernel
theorem dX7_hour_101 : decode cX7_hour 101 = .ok (.istore_n 1, 1) := by decide +kernel
theorem dX7_hour_102 : decode cX7_hour 102 = .ok (.iload_n 1, 1) := by decide +kernel
theorem dX7_hour_103 : decode cX7_hour 103 = .ok (.aload_n 0, 1) := by decide +kernel
theorem dX7_hour_104 : decode cX7_hour 104 = .ok (.getfield 75, 3) := by decide +kernel
theorem dX7_hour_107 : decode cX7_hour 107 = .ok (.if_icmp .ge 23, 3) := by decide +kernel
theorem dX7_hour_110 : decode cX7_hour 110 = .ok (.aload_n 0, 1) := by decide +kernel
theorem dX7_hour_111 : decode cX7_hour 111 = .ok (.getfield 30, 3) := by decide +kernel
theorem dX7_hour_114 : decode cX7_hour 114 = .ok (.iload_n 1, 1) := by decide +kernel
theorem dX7_hour_115 : decode cX7_hour 115 = .ok (.baload, 1) := by decide +kernel
theorem dX7_hour_116 : decode cX7_hour 116 = .ok (.ifCond .eq 8, 3) := by decide +kernel
theorem dX7_hour_119 : decode cX7_hour 119 = .ok (.aload_n 0, 1) := by decide +kernel
theorem dX7_hour_120 : decode cX7_hour 120 = .ok (.iload_n 1, 1) := by decide +kernel
theorem dX7_hour_121 : decode cX7_hour 121 = .ok (.invokevirtual 196, 3) := by decide +kernel
theorem dX7_hour_124 : decode cX7_hour 124 = .ok (.iinc 1 1, 3) := by decide +kernel
theorem dX7_hour_127 : decode cX7_hour 127 = .ok (.goto (-25), 3) := by decide +kernel
theorem dX7_hour_130 : decode cX7_hour 130 = .ok (.return_, 1) := by decide +kernel
theorem dX7_run_0 : decode cX7_run 0 = .ok (.aload_n 0, 1) := by decide +kernel
theorem dX7_run_1 : decode cX7_run 1 = .ok (.iload_n 1, 1) := by decide +kernel
theorem dX7_run_2 : decode cX7_run 2 = .ok (.ifCond .lt 9, 3) := by decide +kernel
theorem dX7_run_5 : decode cX7_run 5 = .ok (.iload_n 1, 1) := by decide +kernel
theorem dX7_run_6 : decode cX7_run 6 = .ok (.bipush 100, 2) := by decide +kernel
theorem dX7_run_8 : decode cX7_run 8 = .ok (.if_icmp .le 7, 3) := by decide +kernel
theorem dX7_run_11 : decode cX7_run 11 = .ok (.iconst 1, 1) := by decide +kernel
theorem dX7_run_12 : decode cX7_run 12 = .ok (.goto 4, 3) := by decide +kernel
theorem dX7_run_15 : decode cX7_run 15 = .ok (.iconst 0, 1) := by decide +kernel
theorem dX7_run_16 : decode cX7_run 16 = .ok (.putfield 78, 3) := by decide +kernel
theorem dX7_run_19 : decode cX7_run 19 = .ok (.iconst 0, 1) := by decide +kernel
theorem dX7_run_20 : decode cX7_run 20 = .ok (.istore_n 2, 1) := by decide +kernel
theorem dX7_run_21 : decode cX7_run 21 = .ok (.iload_n 2, 1) := by decide +kernel
theorem dX7_run_22 : decode cX7_run 22 = .ok (.iload_n 1, 1) := by decide +kernel
theorem dX7_run_23 : decode cX7_run 23 = .ok (.if_icmp .ge 34, 3) := by decide +kernel
theorem dX7_run_26 : decode cX7_run 26 = .ok (.aload_n 0, 1) := by decide +kernel
theorem dX7_run_27 : decode cX7_run 27 = .ok (.getfield 78, 3) := by decide +kernel
theorem dX7_run_30 : decode cX7_run 30 = .ok (.ifCond .ne 27, 3) := by decide +kernel
theorem dX7_run_33 : decode cX7_run 33 = .ok (.aload_n 0, 1) := by decide +kernel
theorem dX7_run_34 : decode cX7_run 34 = .ok (.invokevirtual 199, 3) := by decide +kernel
theorem dX7_run_37 : decode cX7_run 37 = .ok (.ifCond .eq 10, 3) := by decide +kernel
theorem dX7_run_40 : decode cX7_run 40 = .ok (.iconst (-1), 1) := by decide +kernel
theorem dX7_run_41 : decode cX7_run 41 = .ok (.aload_n 0, 1) := by decide +kernel
theorem dX7_run_42 : decode cX7_run 42 = .ok (.getfield 152, 3) := by decide +kernel
theorem dX7_run_45 : decode cX7_run 45 = .ok (.isub, 1) := by decide +kernel
theorem dX7_run_46 : decode cX7_run 46 = .ok (.ireturn, 1) := by decide +kernel
theorem dX7_run_47 : decode cX7_run 47 = .ok (.aload_n 0, 1) := by decide +kernel
theorem dX7_run_48 : decode cX7_run 48 = .ok (.invokevirtual 202, 3) := by decide +kernel
theorem dX7_run_51 : decode cX7_run 51 = .ok (.iinc 2 1, 3) := by decide +kernel
theorem dX7_run_54 : decode cX7_run 54 = .ok (.goto (-33), 3) := by decide +kernel
theorem dX7_run_57 : decode cX7_run 57 = .ok (.aload_n 0, 1) := by decide +kernel
theorem dX7_run_58 : decode cX7_run 58 = .ok (.getfield 78, 3) := by decide +kernel
theorem dX7_run_61 : decode cX7_run 61 = .ok (.ifCond .le 7, 3) := by decide +kernel
theorem dX7_run_64 : decode cX7_run 64 = .ok (.iconst 0, 1) := by decide +kernel
theorem dX7_run_65 : decode cX7_run 65 = .ok (.goto 7, 3) := by decide +kernel
theorem dX7_run_68 : decode cX7_run 68 = .ok (.aload_n 0, 1) := by decide +kernel
theorem dX7_run_69 : decode cX7_run 69 = .ok (.getfield 152, 3) := by decide +kernel
theorem dX7_run_72 : decode cX7_run 72 = .ok (.ireturn, 1) := by decide +kernel
theorem dX7_limit_0 : decode cX7_limit 0 = .ok (.aload_n 0, 1) := by decide +kernel
theorem dX7_limit_1 : decode cX7_limit 1 = .ok (.aload_n 0, 1) := by decide +kernel
theorem dX7_limit_2 : decode cX7_limit 2 = .ok (.iload_n 1, 1) := by decide +kernel
theorem dX7_limit_3 : decode cX7_limit 3 = .ok (.invokevirtual 81, 3) := by decide +kernel
theorem dX7_limit_6 : decode cX7_limit 6 = .ok (.ifCond .eq 7, 3) := by decide +kernel
theorem dX7_limit_9 : decode cX7_limit 9 = .ok (.iconst 1, 1) := by decide +kernel
theorem dX7_limit_10 : decode cX7_limit 10 = .ok (.goto 27, 3) := by decide +kernel
theorem dX7_limit_13 : decode cX7_limit 13 = .ok (.dload_n 2, 1) := by decide +kernel
theorem dX7_limit_14 : decode cX7_limit 14 = .ok (.dconst 0, 1) := by decide +kernel
theorem dX7_limit_15 : decode cX7_limit 15 = .ok (.dcmp .l, 1) := by decide +kernel
theorem dX7_limit_16 : decode cX7_limit 16 = .ok (.ifCond .ge 7, 3) := by decide +kernel
theorem dX7_limit_19 : decode cX7_limit 19 = .ok (.iconst 2, 1) := by decide +kernel
theorem dX7_limit_20 : decode cX7_limit 20 = .ok (.goto 17, 3) := by decide +kernel
theorem dX7_limit_23 : decode cX7_limit 23 = .ok (.aload_n 0, 1) := by decide +kernel
theorem dX7_limit_24 : decode cX7_limit 24 = .ok (.getfield 30, 3) := by decide +kernel
theorem dX7_limit_27 : decode cX7_limit 27 = .ok (.iload_n 1, 1) := by decide +kernel
theorem dX7_limit_28 : decode cX7_limit 28 = .ok (.baload, 1) := by decide +kernel
theorem dX7_limit_29 : decode cX7_limit 29 = .ok (.ifCond .eq 7, 3) := by decide +kernel
theorem dX7_limit_32 : decode cX7_limit 32 = .ok (.iconst 0, 1) := by decide +kernel
theorem dX7_limit_33 : decode cX7_limit 33 = .ok (.goto 4, 3) := by decide +kernel
theorem dX7_limit_36 : decode cX7_limit 36 = .ok (.iconst 3, 1) := by decide +kernel
theorem dX7_limit_37 : decode cX7_limit 37 = .ok (.putfield 78, 3) := by decide +kernel
theorem dX7_limit_40 : decode cX7_limit 40 = .ok (.aload_n 0, 1) := by decide +kernel
theorem dX7_limit_41 : decode cX7_limit 41 = .ok (.getfield 78, 3) := by decide +kernel
theorem dX7_limit_44 : decode cX7_limit 44 = .ok (.ifCond .ne 24, 3) := by decide +kernel
theorem dX7_limit_47 : decode cX7_limit 47 = .ok (.aload_n 0, 1) := by decide +kernel
theorem dX7_limit_48 : decode cX7_limit 48 = .ok (.getfield 47, 3) := by decide +kernel
theorem dX7_limit_51 : decode cX7_limit 51 = .ok (.iload_n 1, 1) := by decide +kernel
theorem dX7_limit_52 : decode cX7_limit 52 = .ok (.iconst 1, 1) := by decide +kernel
theorem dX7_limit_53 : decode cX7_limit 53 = .ok (.bastore, 1) := by decide +kernel
theorem dX7_limit_54 : decode cX7_limit 54 = .ok (.aload_n 0, 1) := by decide +kernel
theorem dX7_limit_55 : decode cX7_limit 55 = .ok (.getfield 50, 3) := by decide +kernel
theorem dX7_limit_58 : decode cX7_limit 58 = .ok (.iload_n 1, 1) := by decide +kernel
theorem dX7_limit_59 : decode cX7_limit 59 = .ok (.dload_n 2, 1) := by decide +kernel
theorem dX7_limit_60 : decode cX7_limit 60 = .ok (.dastore, 1) := by decide +kernel
theorem dX7_limit_61 : decode cX7_limit 61 = .ok (.aload_n 0, 1) := by decide +kernel
theorem dX7_limit_62 : decode cX7_limit 62 = .ok (.getfield 53, 3) := by decide +kernel
theorem dX7_limit_65 : decode cX7_limit 65 = .ok (.iload_n 1, 1) := by decide +kernel
theorem dX7_limit_66 : decode cX7_limit 66 = .ok (.iconst (-1), 1) := by decide +kernel
theorem dX7_limit_67 : decode cX7_limit 67 = .ok (.iastore, 1) := by decide +kernel
theorem dX7_limit_68 : decode cX7_limit 68 = .ok (.return_, 1) := by decide +kernel
theorem dX7_isMissing_0 : decode cX7_isMissing 0 = .ok (.aload_n 0, 1) := by decide +kernel
theorem dX7_isMissing_1 : decode cX7_isMissing 1 = .ok (.iload_n 2, 1) := by decide +kernel
theorem dX7_isMissing_2 : decode cX7_isMissing 2 = .ok (.ifCond .eq 7, 3) := by decide +kernel
theorem dX7_isMissing_5 : decode cX7_isMissing 5 = .ok (.iconst 1, 1) := by decide +kernel
theorem dX7_isMissing_6 : decode cX7_isMissing 6 = .ok (.goto 17, 3) := by decide +kernel
theorem dX7_isMissing_9 : decode cX7_isMissing 9 = .ok (.aload_n 0, 1) := by decide +kernel
theorem dX7_isMissing_10 : decode cX7_isMissing 10 = .ok (.getfield 30, 3) := by decide +kernel
theorem dX7_isMissing_13 : decode cX7_isMissing 13 = .ok (.iload_n 1, 1) := by decide +kernel
theorem dX7_isMissing_14 : decode cX7_isMissing 14 = .ok (.baload, 1) := by decide +kernel
theorem dX7_isMissing_15 : decode cX7_isMissing 15 = .ok (.ifCond .eq 7, 3) := by decide +kernel
theorem dX7_isMissing_18 : decode cX7_isMissing 18 = .ok (.iconst 0, 1) := by decide +kernel
theorem dX7_isMissing_19 : decode cX7_isMissing 19 = .ok (.goto 4, 3) := by decide +kernel
theorem dX7_isMissing_22 : decode cX7_isMissing 22 = .ok (.iconst 2, 1) := by decide +kernel
theorem dX7_isMissing_23 : decode cX7_isMissing 23 = .ok (.putfield 78, 3) := by decide +kernel
theorem dX7_isMissing_26 : decode cX7_isMissing 26 = .ok (.aload_n 0, 1) := by decide +kernel
theorem dX7_isMissing_27 : decode cX7_isMissing 27 = .ok (.getfield 78, 3) := by decide +kernel
theorem dX7_isMissing_30 : decode cX7_isMissing 30 = .ok (.ifCond .le 7, 3) := by decide +kernel
theorem dX7_isMissing_33 : decode cX7_isMissing 33 = .ok (.iconst 1, 1) := by decide +kernel
theorem dX7_isMissing_34 : decode cX7_isMissing 34 = .ok (.goto 4, 3) := by decide +kernel
theorem dX7_isMissing_37 : decode cX7_isMissing 37 = .ok (.iconst 0, 1) := by decide +kernel
theorem dX7_isMissing_38 : decode cX7_isMissing 38 = .ok (.ireturn, 1) := by decide +kernel
theorem dX7_check_0 : decode cX7_check 0 = .ok (.aload_n 0, 1) := by decide +kernel
theorem dX7_check_1 : decode cX7_check 1 = .ok (.iload_n 1, 1) := by decide +kernel
theorem dX7_check_2 : decode cX7_check 2 = .ok (.aload_n 0, 1) := by decide +kernel
theorem dX7_check_3 : decode cX7_check 3 = .ok (.iload_n 1, 1) := by decide +kernel
theorem dX7_check_4 : decode cX7_check 4 = .ok (.invokevirtual 81, 3) := by decide +kernel
theorem dX7_check_7 : decode cX7_check 7 = .ok (.invokevirtual 205, 3) := by decide +kernel
theorem dX7_check_10 : decode cX7_check 10 = .ok (.ifCond .eq 7, 3) := by decide +kernel
theorem dX7_check_13 : decode cX7_check 13 = .ok (.iconst 0, 1) := by decide +kernel
theorem dX7_check_14 : decode cX7_check 14 = .ok (.goto 9, 3) := by decide +kernel
theorem dX7_check_17 : decode cX7_check 17 = .ok (.aload_n 0, 1) := by decide +kernel
theorem dX7_check_18 : decode cX7_check 18 = .ok (.getfield 53, 3) := by decide +kernel
theorem dX7_check_21 : decode cX7_check 21 = .ok (.iload_n 1, 1) := by decide +kernel
theorem dX7_check_22 : decode cX7_check 22 = .ok (.iaload, 1) := by decide +kernel
theorem dX7_check_23 : decode cX7_check 23 = .ok (.ireturn, 1) := by decide +kernel
theorem dX7_wet_0 : decode cX7_wet 0 = .ok (.aload_n 0, 1) := by decide +kernel
theorem dX7_wet_1 : decode cX7_wet 1 = .ok (.iload_n 1, 1) := by decide +kernel
theorem dX7_wet_2 : decode cX7_wet 2 = .ok (.aload_n 0, 1) := by decide +kernel
theorem dX7_wet_3 : decode cX7_wet 3 = .ok (.iload_n 1, 1) := by decide +kernel
theorem dX7_wet_4 : decode cX7_wet 4 = .ok (.iload_n 2, 1) := by decide +kernel
theorem dX7_wet_5 : decode cX7_wet 5 = .ok (.invokevirtual 102, 3) := by decide +kernel
theorem dX7_wet_8 : decode cX7_wet 8 = .ok (.invokevirtual 205, 3) := by decide +kernel
theorem dX7_wet_11 : decode cX7_wet 11 = .ok (.ifCond .eq 7, 3) := by decide +kernel
theorem dX7_wet_14 : decode cX7_wet 14 = .ok (.dconst 0, 1) := by decide +kernel
theorem dX7_wet_15 : decode cX7_wet 15 = .ok (.goto 14, 3) := by decide +kernel
theorem dX7_wet_18 : decode cX7_wet 18 = .ok (.aload_n 0, 1) := by decide +kernel
theorem dX7_wet_19 : decode cX7_wet 19 = .ok (.getfield 41, 3) := by decide +kernel
theorem dX7_wet_22 : decode cX7_wet 22 = .ok (.bipush 16, 2) := by decide +kernel
theorem dX7_wet_24 : decode cX7_wet 24 = .ok (.iload_n 1, 1) := by decide +kernel
theorem dX7_wet_25 : decode cX7_wet 25 = .ok (.imul, 1) := by decide +kernel
theorem dX7_wet_26 : decode cX7_wet 26 = .ok (.iload_n 2, 1) := by decide +kernel
theorem dX7_wet_27 : decode cX7_wet 27 = .ok (.iadd, 1) := by decide +kernel
theorem dX7_wet_28 : decode cX7_wet 28 = .ok (.daload, 1) := by decide +kernel
theorem dX7_wet_29 : decode cX7_wet 29 = .ok (.dreturn, 1) := by decide +kernel
theorem dX7_mean_0 : decode cX7_mean 0 = .ok (.aload_n 0, 1) := by decide +kernel
theorem dX7_mean_1 : decode cX7_mean 1 = .ok (.iload_n 1, 1) := by decide +kernel
theorem dX7_mean_2 : decode cX7_mean 2 = .ok (.aload_n 0, 1) := by decide +kernel
theorem dX7_mean_3 : decode cX7_mean 3 = .ok (.iload_n 1, 1) := by decide +kernel
theorem dX7_mean_4 : decode cX7_mean 4 = .ok (.invokevirtual 81, 3) := by decide +kernel
theorem dX7_mean_7 : decode cX7_mean 7 = .ok (.invokevirtual 205, 3) := by decide +kernel
theorem dX7_mean_10 : decode cX7_mean 10 = .ok (.ifCond .eq 7, 3) := by decide +kernel
theorem dX7_mean_13 : decode cX7_mean 13 = .ok (.dconst 0, 1) := by decide +kernel
theorem dX7_mean_14 : decode cX7_mean 14 = .ok (.goto 8, 3) := by decide +kernel
theorem dX7_mean_17 : decode cX7_mean 17 = .ok (.aload_n 0, 1) := by decide +kernel
theorem dX7_mean_18 : decode cX7_mean 18 = .ok (.iload_n 1, 1) := by decide +kernel
theorem dX7_mean_19 : decode cX7_mean 19 = .ok (.invokevirtual 155, 3) := by decide +kernel
theorem dX7_mean_22 : decode cX7_mean 22 = .ok (.dreturn, 1) := by decide +kernel
theorem dX7_stress_0 : decode cX7_stress 0 = .ok (.aload_n 0, 1) := by decide +kernel
theorem dX7_stress_1 : decode cX7_stress 1 = .ok (.iload_n 1, 1) := by decide +kernel
theorem dX7_stress_2 : decode cX7_stress 2 = .ok (.aload_n 0, 1) := by decide +kernel
theorem dX7_stress_3 : decode cX7_stress 3 = .ok (.iload_n 1, 1) := by decide +kernel
theorem dX7_stress_4 : decode cX7_stress 4 = .ok (.iload_n 2, 1) := by decide +kernel
theorem dX7_stress_5 : decode cX7_stress 5 = .ok (.invokevirtual 102, 3) := by decide +kernel
theorem dX7_stress_8 : decode cX7_stress 8 = .ok (.invokevirtual 205, 3) := by decide +kernel
theorem dX7_stress_11 : decode cX7_stress 11 = .ok (.ifCond .eq 7, 3) := by decide +kernel
theorem dX7_stress_14 : decode cX7_stress 14 = .ok (.dconst 0, 1) := by decide +kernel
theorem dX7_stress_15 : decode cX7_stress 15 = .ok (.goto 9, 3) := by decide +kernel
theorem dX7_stress_18 : decode cX7_stress 18 = .ok (.aload_n 0, 1) := by decide +kernel
theorem dX7_stress_19 : decode cX7_stress 19 = .ok (.iload_n 1, 1) := by decide +kernel
theorem dX7_stress_20 : decode cX7_stress 20 = .ok (.iload_n 2, 1) := by decide +kernel
theorem dX7_stress_21 : decode cX7_stress 21 = .ok (.invokevirtual 186, 3) := by decide +kernel
theorem dX7_stress_24 : decode cX7_stress 24 = .ok (.dreturn, 1) := by decide +kernel
theorem dX7_balance_0 : decode cX7_balance 0 = .ok (.aload_n 0, 1) := by decide +kernel
theorem dX7_balance_1 : decode cX7_balance 1 = .ok (.iconst 0, 1) := by decide +kernel
theorem dX7_balance_2 : decode cX7_balance 2 = .ok (.putfield 78, 3) := by decide +kernel
theorem dX7_balance_5 : decode cX7_balance 5 = .ok (.aload_n 0, 1) := by decide +kernel
theorem dX7_balance_6 : decode cX7_balance 6 = .ok (.invokevirtual 162, 3) := by decide +kernel
theorem dX7_balance_9 : decode cX7_balance 9 = .ok (.dreturn, 1) := by decide +kernel
theorem dX7_told_0 : decode cX7_told 0 = .ok (.aload_n 0, 1) := by decide +kernel
theorem dX7_told_1 : decode cX7_told 1 = .ok (.iload_n 1, 1) := by decide +kernel
theorem dX7_told_2 : decode cX7_told 2 = .ok (.ifCond .lt 8, 3) := by decide +kernel
theorem dX7_told_5 : decode cX7_told 5 = .ok (.iload_n 1, 1) := by decide +kernel
theorem dX7_told_6 : decode cX7_told 6 = .ok (.iconst 4, 1) := by decide +kernel
theorem dX7_told_7 : decode cX7_told 7 = .ok (.if_icmp .le 7, 3) := by decide +kernel
theorem dX7_told_10 : decode cX7_told 10 = .ok (.iconst 1, 1) := by decide +kernel
theorem dX7_told_11 : decode cX7_told 11 = .ok (.goto 4, 3) := by decide +kernel
theorem dX7_told_14 : decode cX7_told 14 = .ok (.iconst 0, 1) := by decide +kernel
theorem dX7_told_15 : decode cX7_told 15 = .ok (.putfield 78, 3) := by decide +kernel
theorem dX7_told_18 : decode cX7_told 18 = .ok (.aload_n 0, 1) := by decide +kernel
theorem dX7_told_19 : decode cX7_told 19 = .ok (.getfield 78, 3) := by decide +kernel
theorem dX7_told_22 : decode cX7_told 22 = .ok (.ifCond .le 7, 3) := by decide +kernel
theorem dX7_told_25 : decode cX7_told 25 = .ok (.dconst 0, 1) := by decide +kernel
theorem dX7_told_26 : decode cX7_told 26 = .ok (.goto 54, 3) := by decide +kernel
theorem dX7_told_29 : decode cX7_told 29 = .ok (.iload_n 1, 1) := by decide +kernel
theorem dX7_told_30 : decode cX7_told 30 = .ok (.ifCond .ne 10, 3) := by decide +kernel
theorem dX7_told_33 : decode cX7_told 33 = .ok (.aload_n 0, 1) := by decide +kernel
theorem dX7_told_34 : decode cX7_told 34 = .ok (.getfield 18, 3) := by decide +kernel
theorem dX7_told_37 : decode cX7_told 37 = .ok (.goto 43, 3) := by decide +kernel
theorem dX7_told_40 : decode cX7_told 40 = .ok (.iload_n 1, 1) := by decide +kernel
theorem dX7_told_41 : decode cX7_told 41 = .ok (.iconst 1, 1) := by decide +kernel
theorem dX7_told_42 : decode cX7_told 42 = .ok (.if_icmp .ne 10, 3) := by decide +kernel
theorem dX7_told_45 : decode cX7_told 45 = .ok (.aload_n 0, 1) := by decide +kernel
theorem dX7_told_46 : decode cX7_told 46 = .ok (.getfield 24, 3) := by decide +kernel
theorem dX7_told_49 : decode cX7_told 49 = .ok (.goto 31, 3) := by decide +kernel
theorem dX7_told_52 : decode cX7_told 52 = .ok (.iload_n 1, 1) := by decide +kernel
theorem dX7_told_53 : decode cX7_told 53 = .ok (.iconst 2, 1) := by decide +kernel
theorem dX7_told_54 : decode cX7_told 54 = .ok (.if_icmp .ne 10, 3) := by decide +kernel
theorem dX7_told_57 : decode cX7_told 57 = .ok (.aload_n 0, 1) := by decide +kernel
theorem dX7_told_58 : decode cX7_told 58 = .ok (.getfield 27, 3) := by decide +kernel
theorem dX7_told_61 : decode cX7_told 61 = .ok (.goto 19, 3) := by decide +kernel
theorem dX7_told_64 : decode cX7_told 64 = .ok (.iload_n 1, 1) := by decide +kernel
theorem dX7_told_65 : decode cX7_told 65 = .ok (.iconst 3, 1) := by decide +kernel
theorem dX7_told_66 : decode cX7_told 66 = .ok (.if_icmp .ne 10, 3) := by decide +kernel
theorem dX7_told_69 : decode cX7_told 69 = .ok (.aload_n 0, 1) := by decide +kernel
theorem dX7_told_70 : decode cX7_told 70 = .ok (.getfield 99, 3) := by decide +kernel
theorem dX7_told_73 : decode cX7_told 73 = .ok (.goto 7, 3) := by decide +kernel
theorem dX7_told_76 : decode cX7_told 76 = .ok (.aload_n 0, 1) := by decide +kernel
theorem dX7_told_77 : decode cX7_told 77 = .ok (.getfield 172, 3) := by decide +kernel
theorem dX7_told_80 : decode cX7_told 80 = .ok (.dreturn, 1) := by decide +kernel
theorem dX7_grams_0 : decode cX7_grams 0 = .ok (.aload_n 0, 1) := by decide +kernel
theorem dX7_grams_1 : decode cX7_grams 1 = .ok (.iconst 0, 1) := by decide +kernel
theorem dX7_grams_2 : decode cX7_grams 2 = .ok (.putfield 78, 3) := by decide +kernel
theorem dX7_grams_5 : decode cX7_grams 5 = .ok (.aload_n 0, 1) := by decide +kernel
theorem dX7_grams_6 : decode cX7_grams 6 = .ok (.getfield 175, 3) := by decide +kernel
theorem dX7_grams_9 : decode cX7_grams 9 = .ok (.lreturn, 1) := by decide +kernel
theorem dX7_count_0 : decode cX7_count 0 = .ok (.aload_n 0, 1) := by decide +kernel
theorem dX7_count_1 : decode cX7_count 1 = .ok (.iload_n 1, 1) := by decide +kernel
theorem dX7_count_2 : decode cX7_count 2 = .ok (.ifCond .lt 8, 3) := by decide +kernel
