theorem dX7_dustByAccounts_4 : decode cX7_dustByAccounts 4 = .ok (.getfield 249, 3) := by decide +kernel
theorem dX7_dustByAccounts_7 : decode cX7_dustByAccounts 7 = .ok (.getfield 282, 3) := by decide +kernel
theorem dX7_dustByAccounts_10 : decode cX7_dustByAccounts 10 = .ok (.aload_n 0, 1) := by decide +kernel
theorem dX7_dustByAccounts_11 : decode cX7_dustByAccounts 11 = .ok (.getfield 10, 3) := by decide +kernel
theorem dX7_dustByAccounts_14 : decode cX7_dustByAccounts 14 = .ok (.getfield 249, 3) := by decide +kernel
theorem dX7_dustByAccounts_17 : decode cX7_dustByAccounts 17 = .ok (.getfield 285, 3) := by decide +kernel
theorem dX7_dustByAccounts_20 : decode cX7_dustByAccounts 20 = .ok (.isub, 1) := by decide +kernel
theorem dX7_dustByAccounts_21 : decode cX7_dustByAccounts 21 = .ok (.ireturn, 1) := by decide +kernel
theorem dX7_passTotal_0 : decode cX7_passTotal 0 = .ok (.aload_n 0, 1) := by decide +kernel
theorem dX7_passTotal_1 : decode cX7_passTotal 1 = .ok (.getfield 10, 3) := by decide +kernel
theorem dX7_passTotal_4 : decode cX7_passTotal 4 = .ok (.getfield 288, 3) := by decide +kernel
theorem dX7_passTotal_7 : decode cX7_passTotal 7 = .ok (.ireturn, 1) := by decide +kernel
theorem dX7_burntTotal_0 : decode cX7_burntTotal 0 = .ok (.aload_n 0, 1) := by decide +kernel
theorem dX7_burntTotal_1 : decode cX7_burntTotal 1 = .ok (.getfield 10, 3) := by decide +kernel
theorem dX7_burntTotal_4 : decode cX7_burntTotal 4 = .ok (.getfield 291, 3) := by decide +kernel
theorem dX7_burntTotal_7 : decode cX7_burntTotal 7 = .ok (.ireturn, 1) := by decide +kernel
theorem dX7_meanBrightness_0 : decode cX7_meanBrightness 0 = .ok (.aload_n 0, 1) := by decide +kernel
theorem dX7_meanBrightness_1 : decode cX7_meanBrightness 1 = .ok (.getfield 10, 3) := by decide +kernel
theorem dX7_meanBrightness_4 : decode cX7_meanBrightness 4 = .ok (.getfield 176, 3) := by decide +kernel
theorem dX7_meanBrightness_7 : decode cX7_meanBrightness 7 = .ok (.ifCond .ne 13, 3) := by decide +kernel
theorem dX7_meanBrightness_10 : decode cX7_meanBrightness 10 = .ok (.new 221, 3) := by decide +kernel
theorem dX7_meanBrightness_13 : decode cX7_meanBrightness 13 = .ok (.dup, 1) := by decide +kernel
theorem dX7_meanBrightness_14 : decode cX7_meanBrightness 14 = .ok (.ldc 223, 2) := by decide +kernel
theorem dX7_meanBrightness_16 : decode cX7_meanBrightness 16 = .ok (.invokespecial 225, 3) := by decide +kernel
theorem dX7_meanBrightness_19 : decode cX7_meanBrightness 19 = .ok (.athrow, 1) := by decide +kernel
theorem dX7_meanBrightness_20 : decode cX7_meanBrightness 20 = .ok (.iconst 0, 1) := by decide +kernel
theorem dX7_meanBrightness_21 : decode cX7_meanBrightness 21 = .ok (.istore_n 1, 1) := by decide +kernel
theorem dX7_meanBrightness_22 : decode cX7_meanBrightness 22 = .ok (.iconst 0, 1) := by decide +kernel
theorem dX7_meanBrightness_23 : decode cX7_meanBrightness 23 = .ok (.istore_n 2, 1) := by decide +kernel
theorem dX7_meanBrightness_24 : decode cX7_meanBrightness 24 = .ok (.iload_n 2, 1) := by decide +kernel
theorem dX7_meanBrightness_25 : decode cX7_meanBrightness 25 = .ok (.aload_n 0, 1) := by decide +kernel
theorem dX7_meanBrightness_26 : decode cX7_meanBrightness 26 = .ok (.getfield 10, 3) := by decide +kernel
theorem dX7_meanBrightness_29 : decode cX7_meanBrightness 29 = .ok (.getfield 176, 3) := by decide +kernel
theorem dX7_meanBrightness_32 : decode cX7_meanBrightness 32 = .ok (.if_icmp .ge 24, 3) := by decide +kernel
theorem dX7_meanBrightness_35 : decode cX7_meanBrightness 35 = .ok (.iload_n 1, 1) := by decide +kernel
theorem dX7_meanBrightness_36 : decode cX7_meanBrightness 36 = .ok (.aload_n 0, 1) := by decide +kernel
theorem dX7_meanBrightness_37 : decode cX7_meanBrightness 37 = .ok (.getfield 10, 3) := by decide +kernel
theorem dX7_meanBrightness_40 : decode cX7_meanBrightness 40 = .ok (.getfield 181, 3) := by decide +kernel
theorem dX7_meanBrightness_43 : decode cX7_meanBrightness 43 = .ok (.iload_n 2, 1) := by decide +kernel
theorem dX7_meanBrightness_44 : decode cX7_meanBrightness 44 = .ok (.aaload, 1) := by decide +kernel
theorem dX7_meanBrightness_45 : decode cX7_meanBrightness 45 = .ok (.getfield 135, 3) := by decide +kernel
theorem dX7_meanBrightness_48 : decode cX7_meanBrightness 48 = .ok (.iadd, 1) := by decide +kernel
theorem dX7_meanBrightness_49 : decode cX7_meanBrightness 49 = .ok (.istore_n 1, 1) := by decide +kernel
theorem dX7_meanBrightness_50 : decode cX7_meanBrightness 50 = .ok (.iinc 2 1, 3) := by decide +kernel
theorem dX7_meanBrightness_53 : decode cX7_meanBrightness 53 = .ok (.goto (-29), 3) := by decide +kernel
theorem dX7_meanBrightness_56 : decode cX7_meanBrightness 56 = .ok (.iload_n 1, 1) := by decide +kernel
theorem dX7_meanBrightness_57 : decode cX7_meanBrightness 57 = .ok (.i2d, 1) := by decide +kernel
theorem dX7_meanBrightness_58 : decode cX7_meanBrightness 58 = .ok (.aload_n 0, 1) := by decide +kernel
theorem dX7_meanBrightness_59 : decode cX7_meanBrightness 59 = .ok (.getfield 10, 3) := by decide +kernel
theorem dX7_meanBrightness_62 : decode cX7_meanBrightness 62 = .ok (.getfield 176, 3) := by decide +kernel
theorem dX7_meanBrightness_65 : decode cX7_meanBrightness 65 = .ok (.i2d, 1) := by decide +kernel
theorem dX7_meanBrightness_66 : decode cX7_meanBrightness 66 = .ok (.ddiv, 1) := by decide +kernel
theorem dX7_meanBrightness_67 : decode cX7_meanBrightness 67 = .ok (.dreturn, 1) := by decide +kernel
theorem dX7_dustyShare_0 : decode cX7_dustyShare 0 = .ok (.aload_n 0, 1) := by decide +kernel
theorem dX7_dustyShare_1 : decode cX7_dustyShare 1 = .ok (.getfield 10, 3) := by decide +kernel
theorem dX7_dustyShare_4 : decode cX7_dustyShare 4 = .ok (.getfield 249, 3) := by decide +kernel
theorem dX7_dustyShare_7 : decode cX7_dustyShare 7 = .ok (.invokevirtual 294, 3) := by decide +kernel
theorem dX7_dustyShare_10 : decode cX7_dustyShare 10 = .ok (.i2f, 1) := by decide +kernel
theorem dX7_dustyShare_11 : decode cX7_dustyShare 11 = .ok (.ldc_w 297, 3) := by decide +kernel
theorem dX7_dustyShare_14 : decode cX7_dustyShare 14 = .ok (.fdiv, 1) := by decide +kernel
theorem dX7_dustyShare_15 : decode cX7_dustyShare 15 = .ok (.freturn, 1) := by decide +kernel
theorem dX7_isConsistent_0 : decode cX7_isConsistent 0 = .ok (.aload_n 0, 1) := by decide +kernel
theorem dX7_isConsistent_1 : decode cX7_isConsistent 1 = .ok (.invokevirtual 298, 3) := by decide +kernel
theorem dX7_isConsistent_4 : decode cX7_isConsistent 4 = .ok (.aload_n 0, 1) := by decide +kernel
theorem dX7_isConsistent_5 : decode cX7_isConsistent 5 = .ok (.invokevirtual 301, 3) := by decide +kernel
theorem dX7_isConsistent_8 : decode cX7_isConsistent 8 = .ok (.if_icmp .ne 43, 3) := by decide +kernel
theorem dX7_isConsistent_11 : decode cX7_isConsistent 11 = .ok (.aload_n 0, 1) := by decide +kernel
theorem dX7_isConsistent_12 : decode cX7_isConsistent 12 = .ok (.invokevirtual 304, 3) := by decide +kernel
theorem dX7_isConsistent_15 : decode cX7_isConsistent 15 = .ok (.aload_n 0, 1) := by decide +kernel
theorem dX7_isConsistent_16 : decode cX7_isConsistent 16 = .ok (.invokevirtual 307, 3) := by decide +kernel
theorem dX7_isConsistent_19 : decode cX7_isConsistent 19 = .ok (.if_icmp .ne 32, 3) := by decide +kernel
theorem dX7_isConsistent_22 : decode cX7_isConsistent 22 = .ok (.aload_n 0, 1) := by decide +kernel
theorem dX7_isConsistent_23 : decode cX7_isConsistent 23 = .ok (.bipush 20, 2) := by decide +kernel
theorem dX7_isConsistent_25 : decode cX7_isConsistent 25 = .ok (.invokevirtual 310, 3) := by decide +kernel
theorem dX7_isConsistent_28 : decode cX7_isConsistent 28 = .ok (.aload_n 0, 1) := by decide +kernel
theorem dX7_isConsistent_29 : decode cX7_isConsistent 29 = .ok (.bipush 20, 2) := by decide +kernel
theorem dX7_isConsistent_31 : decode cX7_isConsistent 31 = .ok (.invokevirtual 313, 3) := by decide +kernel
theorem dX7_isConsistent_34 : decode cX7_isConsistent 34 = .ok (.if_icmp .ne 17, 3) := by decide +kernel
theorem dX7_isConsistent_37 : decode cX7_isConsistent 37 = .ok (.aload_n 0, 1) := by decide +kernel
theorem dX7_isConsistent_38 : decode cX7_isConsistent 38 = .ok (.getfield 10, 3) := by decide +kernel
theorem dX7_isConsistent_41 : decode cX7_isConsistent 41 = .ok (.invokevirtual 316, 3) := by decide +kernel
theorem dX7_isConsistent_44 : decode cX7_isConsistent 44 = .ok (.ifCond .eq 7, 3) := by decide +kernel
theorem dX7_isConsistent_47 : decode cX7_isConsistent 47 = .ok (.iconst 1, 1) := by decide +kernel
theorem dX7_isConsistent_48 : decode cX7_isConsistent 48 = .ok (.goto 4, 3) := by decide +kernel
theorem dX7_isConsistent_51 : decode cX7_isConsistent 51 = .ok (.iconst 0, 1) := by decide +kernel
theorem dX7_isConsistent_52 : decode cX7_isConsistent 52 = .ok (.ireturn, 1) := by decide +kernel
theorem dX7_append_0 : decode cX7_append 0 = .ok (.aload_n 0, 1) := by decide +kernel
theorem dX7_append_1 : decode cX7_append 1 = .ok (.getfield 39, 3) := by decide +kernel
theorem dX7_append_4 : decode cX7_append 4 = .ok (.invokevirtual 319, 3) := by decide +kernel
theorem dX7_append_7 : decode cX7_append 7 = .ok (.ifCond .eq 14, 3) := by decide +kernel
theorem dX7_append_10 : decode cX7_append 10 = .ok (.new 76, 3) := by decide +kernel
theorem dX7_append_13 : decode cX7_append 13 = .ok (.dup, 1) := by decide +kernel
theorem dX7_append_14 : decode cX7_append 14 = .ok (.ldc_w 322, 3) := by decide +kernel
theorem dX7_append_17 : decode cX7_append 17 = .ok (.invokespecial 80, 3) := by decide +kernel
theorem dX7_append_20 : decode cX7_append 20 = .ok (.athrow, 1) := by decide +kernel
theorem dX7_append_21 : decode cX7_append 21 = .ok (.aload_n 0, 1) := by decide +kernel
theorem dX7_append_22 : decode cX7_append 22 = .ok (.getfield 39, 3) := by decide +kernel
theorem dX7_append_25 : decode cX7_append 25 = .ok (.iload_n 1, 1) := by decide +kernel
theorem dX7_append_26 : decode cX7_append 26 = .ok (.invokevirtual 324, 3) := by decide +kernel
theorem dX7_append_29 : decode cX7_append 29 = .ok (.aload_n 0, 1) := by decide +kernel
theorem dX7_append_30 : decode cX7_append 30 = .ok (.getfield 39, 3) := by decide +kernel
theorem dX7_append_33 : decode cX7_append 33 = .ok (.getfield 327, 3) := by decide +kernel
theorem dX7_append_36 : decode cX7_append 36 = .ok (.ireturn, 1) := by decide +kernel
theorem dX7_run_0 : decode cX7_run 0 = .ok (.aload_n 0, 1) := by decide +kernel
theorem dX7_run_1 : decode cX7_run 1 = .ok (.getfield 39, 3) := by decide +kernel
theorem dX7_run_4 : decode cX7_run 4 = .ok (.invokevirtual 330, 3) := by decide +kernel
theorem dX7_run_7 : decode cX7_run 7 = .ok (.istore_n 1, 1) := by decide +kernel
theorem dX7_run_8 : decode cX7_run 8 = .ok (.aload_n 0, 1) := by decide +kernel
theorem dX7_run_9 : decode cX7_run 9 = .ok (.getfield 39, 3) := by decide +kernel
theorem dX7_run_12 : decode cX7_run 12 = .ok (.iconst 0, 1) := by decide +kernel
theorem dX7_run_13 : decode cX7_run 13 = .ok (.putfield 327, 3) := by decide +kernel
theorem dX7_run_16 : decode cX7_run 16 = .ok (.iload_n 1, 1) := by decide +kernel
theorem dX7_run_17 : decode cX7_run 17 = .ok (.ifCond .ne 25, 3) := by decide +kernel
theorem dX7_run_20 : decode cX7_run 20 = .ok (.aload_n 0, 1) := by decide +kernel
theorem dX7_run_21 : decode cX7_run 21 = .ok (.aload_n 0, 1) := by decide +kernel
theorem dX7_run_22 : decode cX7_run 22 = .ok (.getfield 39, 3) := by decide +kernel
theorem dX7_run_25 : decode cX7_run 25 = .ok (.getfield 333, 3) := by decide +kernel
theorem dX7_run_28 : decode cX7_run 28 = .ok (.putfield 54, 3) := by decide +kernel
theorem dX7_run_31 : decode cX7_run 31 = .ok (.new 65, 3) := by decide +kernel
theorem dX7_run_34 : decode cX7_run 34 = .ok (.dup, 1) := by decide +kernel
theorem dX7_run_35 : decode cX7_run 35 = .ok (.ldc_w 336, 3) := by decide +kernel
theorem dX7_run_38 : decode cX7_run 38 = .ok (.invokespecial 69, 3) := by decide +kernel
theorem dX7_run_41 : decode cX7_run 41 = .ok (.athrow, 1) := by decide +kernel
theorem dX7_run_42 : decode cX7_run 42 = .ok (.aload_n 0, 1) := by decide +kernel
theorem dX7_run_43 : decode cX7_run 43 = .ok (.getfield 19, 3) := by decide +kernel
theorem dX7_run_46 : decode cX7_run 46 = .ok (.aload_n 0, 1) := by decide +kernel
theorem dX7_run_47 : decode cX7_run 47 = .ok (.getfield 10, 3) := by decide +kernel
theorem dX7_run_50 : decode cX7_run 50 = .ok (.invokevirtual 338, 3) := by decide +kernel
theorem dX7_run_53 : decode cX7_run 53 = .ok (.iconst 0, 1) := by decide +kernel
theorem dX7_run_54 : decode cX7_run 54 = .ok (.istore_n 2, 1) := by decide +kernel
theorem dX7_run_55 : decode cX7_run 55 = .ok (.iload_n 2, 1) := by decide +kernel
theorem dX7_run_56 : decode cX7_run 56 = .ok (.aload_n 0, 1) := by decide +kernel
theorem dX7_run_57 : decode cX7_run 57 = .ok (.getfield 39, 3) := by decide +kernel
theorem dX7_run_60 : decode cX7_run 60 = .ok (.getfield 341, 3) := by decide +kernel
theorem dX7_run_63 : decode cX7_run 63 = .ok (.if_icmp .ge 85, 3) := by decide +kernel
theorem dX7_run_66 : decode cX7_run 66 = .ok (.aload_n 0, 1) := by decide +kernel
theorem dX7_run_67 : decode cX7_run 67 = .ok (.aload_n 0, 1) := by decide +kernel
theorem dX7_run_68 : decode cX7_run 68 = .ok (.getfield 39, 3) := by decide +kernel
theorem dX7_run_71 : decode cX7_run 71 = .ok (.getfield 342, 3) := by decide +kernel
theorem dX7_run_74 : decode cX7_run 74 = .ok (.iload_n 2, 1) := by decide +kernel
theorem dX7_run_75 : decode cX7_run 75 = .ok (.iaload, 1) := by decide +kernel
theorem dX7_run_76 : decode cX7_run 76 = .ok (.aload_n 0, 1) := by decide +kernel
theorem dX7_run_77 : decode cX7_run 77 = .ok (.getfield 39, 3) := by decide +kernel
theorem dX7_run_80 : decode cX7_run 80 = .ok (.getfield 345, 3) := by decide +kernel
theorem dX7_run_83 : decode cX7_run 83 = .ok (.iload_n 2, 1) := by decide +kernel
theorem dX7_run_84 : decode cX7_run 84 = .ok (.aaload, 1) := by decide +kernel
theorem dX7_run_85 : decode cX7_run 85 = .ok (.iconst 0, 1) := by decide +kernel
theorem dX7_run_86 : decode cX7_run 86 = .ok (.iaload, 1) := by decide +kernel
theorem dX7_run_87 : decode cX7_run 87 = .ok (.aload_n 0, 1) := by decide +kernel
theorem dX7_run_88 : decode cX7_run 88 = .ok (.getfield 39, 3) := by decide +kernel
theorem dX7_run_91 : decode cX7_run 91 = .ok (.getfield 345, 3) := by decide +kernel
theorem dX7_run_94 : decode cX7_run 94 = .ok (.iload_n 2, 1) := by decide +kernel
theorem dX7_run_95 : decode cX7_run 95 = .ok (.aaload, 1) := by decide +kernel
theorem dX7_run_96 : decode cX7_run 96 = .ok (.iconst 1, 1) := by decide +kernel
theorem dX7_run_97 : decode cX7_run 97 = .ok (.iaload, 1) := by decide +kernel
theorem dX7_run_98 : decode cX7_run 98 = .ok (.aload_n 0, 1) := by decide +kernel
theorem dX7_run_99 : decode cX7_run 99 = .ok (.getfield 39, 3) := by decide +kernel
theorem dX7_run_102 : decode cX7_run 102 = .ok (.getfield 345, 3) := by decide +kernel
theorem dX7_run_105 : decode cX7_run 105 = .ok (.iload_n 2, 1) := by decide +kernel
theorem dX7_run_106 : decode cX7_run 106 = .ok (.aaload, 1) := by decide +kernel
theorem dX7_run_107 : decode cX7_run 107 = .ok (.iconst 2, 1) := by decide +kernel
theorem dX7_run_108 : decode cX7_run 108 = .ok (.iaload, 1) := by decide +kernel
theorem dX7_run_109 : decode cX7_run 109 = .ok (.invokevirtual 349, 3) := by decide +kernel
theorem dX7_run_112 : decode cX7_run 112 = .ok (.ifCond .ne 30, 3) := by decide +kernel
theorem dX7_run_115 : decode cX7_run 115 = .ok (.aload_n 0, 1) := by decide +kernel
theorem dX7_run_116 : decode cX7_run 116 = .ok (.getfield 10, 3) := by decide +kernel
theorem dX7_run_119 : decode cX7_run 119 = .ok (.aload_n 0, 1) := by decide +kernel
theorem dX7_run_120 : decode cX7_run 120 = .ok (.getfield 19, 3) := by decide +kernel
theorem dX7_run_123 : decode cX7_run 123 = .ok (.invokevirtual 338, 3) := by decide +kernel
theorem dX7_run_126 : decode cX7_run 126 = .ok (.aload_n 0, 1) := by decide +kernel
theorem dX7_run_127 : decode cX7_run 127 = .ok (.iload_n 2, 1) := by decide +kernel
theorem dX7_run_128 : decode cX7_run 128 = .ok (.putfield 58, 3) := by decide +kernel
theorem dX7_run_131 : decode cX7_run 131 = .ok (.new 126, 3) := by decide +kernel
theorem dX7_run_134 : decode cX7_run 134 = .ok (.dup, 1) := by decide +kernel
theorem dX7_run_135 : decode cX7_run 135 = .ok (.ldc_w 353, 3) := by decide +kernel
theorem dX7_run_138 : decode cX7_run 138 = .ok (.invokespecial 130, 3) := by decide +kernel
theorem dX7_run_141 : decode cX7_run 141 = .ok (.athrow, 1) := by decide +kernel
theorem dX7_run_142 : decode cX7_run 142 = .ok (.iinc 2 1, 3) := by decide +kernel
theorem dX7_run_145 : decode cX7_run 145 = .ok (.goto (-90), 3) := by decide +kernel
theorem dX7_run_148 : decode cX7_run 148 = .ok (.aload_n 0, 1) := by decide +kernel
theorem dX7_run_149 : decode cX7_run 149 = .ok (.getfield 25, 3) := by decide +kernel
theorem dX7_run_152 : decode cX7_run 152 = .ok (.aload_n 0, 1) := by decide +kernel
theorem dX7_run_153 : decode cX7_run 153 = .ok (.getfield 19, 3) := by decide +kernel
theorem dX7_run_156 : decode cX7_run 156 = .ok (.invokevirtual 81, 3) := by decide +kernel
theorem dX7_run_159 : decode cX7_run 159 = .ok (.aload_n 0, 1) := by decide +kernel
theorem dX7_run_160 : decode cX7_run 160 = .ok (.getfield 39, 3) := by decide +kernel
theorem dX7_run_163 : decode cX7_run 163 = .ok (.getfield 341, 3) := by decide +kernel
theorem dX7_run_166 : decode cX7_run 166 = .ok (.ireturn, 1) := by decide +kernel
theorem dX7_errorPosition_0 : decode cX7_errorPosition 0 = .ok (.aload_n 0, 1) := by decide +kernel
theorem dX7_errorPosition_1 : decode cX7_errorPosition 1 = .ok (.getfield 54, 3) := by decide +kernel
theorem dX7_errorPosition_4 : decode cX7_errorPosition 4 = .ok (.iconst (-1), 1) := by decide +kernel
theorem dX7_errorPosition_5 : decode cX7_errorPosition 5 = .ok (.if_icmp .ne 14, 3) := by decide +kernel
theorem dX7_errorPosition_8 : decode cX7_errorPosition 8 = .ok (.new 355, 3) := by decide +kernel
theorem dX7_errorPosition_11 : decode cX7_errorPosition 11 = .ok (.dup, 1) := by decide +kernel
theorem dX7_errorPosition_12 : decode cX7_errorPosition 12 = .ok (.ldc_w 357, 3) := by decide +kernel
theorem dX7_errorPosition_15 : decode cX7_errorPosition 15 = .ok (.invokespecial 359, 3) := by decide +kernel
theorem dX7_errorPosition_18 : decode cX7_errorPosition 18 = .ok (.athrow, 1) := by decide +kernel
theorem dX7_errorPosition_19 : decode cX7_errorPosition 19 = .ok (.aload_n 0, 1) := by decide +kernel
theorem dX7_errorPosition_20 : decode cX7_errorPosition 20 = .ok (.getfield 54, 3) := by decide +kernel
theorem dX7_errorPosition_23 : decode cX7_errorPosition 23 = .ok (.ireturn, 1) := by decide +kernel
theorem dX7_failedCommand_0 : decode cX7_failedCommand 0 = .ok (.aload_n 0, 1) := by decide +kernel
theorem dX7_failedCommand_1 : decode cX7_failedCommand 1 = .ok (.getfield 58, 3) := by decide +kernel
theorem dX7_failedCommand_4 : decode cX7_failedCommand 4 = .ok (.iconst (-1), 1) := by decide +kernel
theorem dX7_failedCommand_5 : decode cX7_failedCommand 5 = .ok (.if_icmp .ne 14, 3) := by decide +kernel
theorem dX7_failedCommand_8 : decode cX7_failedCommand 8 = .ok (.new 355, 3) := by decide +kernel
theorem dX7_failedCommand_11 : decode cX7_failedCommand 11 = .ok (.dup, 1) := by decide +kernel
theorem dX7_failedCommand_12 : decode cX7_failedCommand 12 = .ok (.ldc_w 360, 3) := by decide +kernel
theorem dX7_failedCommand_15 : decode cX7_failedCommand 15 = .ok (.invokespecial 359, 3) := by decide +kernel
theorem dX7_failedCommand_18 : decode cX7_failedCommand 18 = .ok (.athrow, 1) := by decide +kernel
theorem dX7_failedCommand_19 : decode cX7_failedCommand 19 = .ok (.aload_n 0, 1) := by decide +kernel
theorem dX7_failedCommand_20 : decode cX7_failedCommand 20 = .ok (.getfield 58, 3) := by decide +kernel
theorem dX7_failedCommand_23 : decode cX7_failedCommand 23 = .ok (.ireturn, 1) := by decide +kernel
theorem dX7_writeComet_0 : decode cX7_writeComet 0 = .ok (.aload_n 0, 1) := by decide +kernel
theorem dX7_writeComet_1 : decode cX7_writeComet 1 = .ok (.iload_n 1, 1) := by decide +kernel
theorem dX7_writeComet_2 : decode cX7_writeComet 2 = .ok (.invokevirtual 89, 3) := by decide +kernel
theorem dX7_writeComet_5 : decode cX7_writeComet 5 = .ok (.astore_n 2, 1) := by decide +kernel
theorem dX7_writeComet_6 : decode cX7_writeComet 6 = .ok (.aload_n 0, 1) := by decide +kernel
theorem dX7_writeComet_7 : decode cX7_writeComet 7 = .ok (.getfield 46, 3) := by decide +kernel
theorem dX7_writeComet_10 : decode cX7_writeComet 10 = .ok (.iconst 0, 1) := by decide +kernel
theorem dX7_writeComet_11 : decode cX7_writeComet 11 = .ok (.invokevirtual 362, 3) := by decide +kernel
theorem dX7_writeComet_14 : decode cX7_writeComet 14 = .ok (.aload_n 0, 1) := by decide +kernel
theorem dX7_writeComet_15 : decode cX7_writeComet 15 = .ok (.getfield 46, 3) := by decide +kernel
theorem dX7_writeComet_18 : decode cX7_writeComet 18 = .ok (.aload_n 2, 1) := by decide +kernel
theorem dX7_writeComet_19 : decode cX7_writeComet 19 = .ok (.getfield 93, 3) := by decide +kernel
theorem dX7_writeComet_22 : decode cX7_writeComet 22 = .ok (.invokevirtual 365, 3) := by decide +kernel
theorem dX7_writeComet_25 : decode cX7_writeComet 25 = .ok (.bipush 42, 2) := by decide +kernel
theorem dX7_writeComet_27 : decode cX7_writeComet 27 = .ok (.invokevirtual 369, 3) := by decide +kernel
theorem dX7_writeComet_30 : decode cX7_writeComet 30 = .ok (.aload_n 2, 1) := by decide +kernel
theorem dX7_writeComet_31 : decode cX7_writeComet 31 = .ok (.getfield 135, 3) := by decide +kernel
theorem dX7_writeComet_34 : decode cX7_writeComet 34 = .ok (.invokevirtual 365, 3) := by decide +kernel
theorem dX7_writeComet_37 : decode cX7_writeComet 37 = .ok (.pop, 1) := by decide +kernel
theorem dX7_writeComet_38 : decode cX7_writeComet 38 = .ok (.aload_n 0, 1) := by decide +kernel
theorem dX7_writeComet_39 : decode cX7_writeComet 39 = .ok (.getfield 46, 3) := by decide +kernel
theorem dX7_writeComet_42 : decode cX7_writeComet 42 = .ok (.bipush 47, 2) := by decide +kernel
theorem dX7_writeComet_44 : decode cX7_writeComet 44 = .ok (.invokevirtual 369, 3) := by decide +kernel
theorem dX7_writeComet_47 : decode cX7_writeComet 47 = .ok (.aload_n 2, 1) := by decide +kernel
theorem dX7_writeComet_48 : decode cX7_writeComet 48 = .ok (.getfield 110, 3) := by decide +kernel
theorem dX7_writeComet_51 : decode cX7_writeComet 51 = .ok (.invokevirtual 365, 3) := by decide +kernel
theorem dX7_writeComet_54 : decode cX7_writeComet 54 = .ok (.bipush 64, 2) := by decide +kernel
theorem dX7_writeComet_56 : decode cX7_writeComet 56 = .ok (.invokevirtual 369, 3) := by decide +kernel
theorem dX7_writeComet_59 : decode cX7_writeComet 59 = .ok (.aload_n 2, 1) := by decide +kernel
theorem dX7_writeComet_60 : decode cX7_writeComet 60 = .ok (.getfield 191, 3) := by decide +kernel
theorem dX7_writeComet_63 : decode cX7_writeComet 63 = .ok (.invokevirtual 365, 3) := by decide +kernel
theorem dX7_writeComet_66 : decode cX7_writeComet 66 = .ok (.pop, 1) := by decide +kernel
theorem dX7_writeComet_67 : decode cX7_writeComet 67 = .ok (.aload_n 0, 1) := by decide +kernel
theorem dX7_writeComet_68 : decode cX7_writeComet 68 = .ok (.getfield 46, 3) := by decide +kernel
theorem dX7_writeComet_71 : decode cX7_writeComet 71 = .ok (.invokevirtual 372, 3) := by decide +kernel
theorem dX7_writeComet_74 : decode cX7_writeComet 74 = .ok (.ireturn, 1) := by decide +kernel
theorem dX7_writeRing_0 : decode cX7_writeRing 0 = .ok (.aload_n 0, 1) := by decide +kernel
theorem dX7_writeRing_1 : decode cX7_writeRing 1 = .ok (.getfield 46, 3) := by decide +kernel
theorem dX7_writeRing_4 : decode cX7_writeRing 4 = .ok (.iconst 0, 1) := by decide +kernel
theorem dX7_writeRing_5 : decode cX7_writeRing 5 = .ok (.invokevirtual 362, 3) := by decide +kernel
theorem dX7_writeRing_8 : decode cX7_writeRing 8 = .ok (.iconst 0, 1) := by decide +kernel
theorem dX7_writeRing_9 : decode cX7_writeRing 9 = .ok (.istore_n 1, 1) := by decide +kernel
theorem dX7_writeRing_10 : decode cX7_writeRing 10 = .ok (.iload_n 1, 1) := by decide +kernel
theorem dX7_writeRing_11 : decode cX7_writeRing 11 = .ok (.bipush 12, 2) := by decide +kernel
theorem dX7_writeRing_13 : decode cX7_writeRing 13 = .ok (.if_icmp .ge 43, 3) := by decide +kernel
theorem dX7_writeRing_16 : decode cX7_writeRing 16 = .ok (.iload_n 1, 1) := by decide +kernel
theorem dX7_writeRing_17 : decode cX7_writeRing 17 = .ok (.ifCond .le 13, 3) := by decide +kernel
theorem dX7_writeRing_20 : decode cX7_writeRing 20 = .ok (.aload_n 0, 1) := by decide +kernel
theorem dX7_writeRing_21 : decode cX7_writeRing 21 = .ok (.getfield 46, 3) := by decide +kernel
theorem dX7_writeRing_24 : decode cX7_writeRing 24 = .ok (.bipush 44, 2) := by decide +kernel
theorem dX7_writeRing_26 : decode cX7_writeRing 26 = .ok (.invokevirtual 369, 3) := by decide +kernel
theorem dX7_writeRing_29 : decode cX7_writeRing 29 = .ok (.pop, 1) := by decide +kernel
theorem dX7_writeRing_30 : decode cX7_writeRing 30 = .ok (.aload_n 0, 1) := by decide +kernel
theorem dX7_writeRing_31 : decode cX7_writeRing 31 = .ok (.getfield 46, 3) := by decide +kernel
theorem dX7_writeRing_34 : decode cX7_writeRing 34 = .ok (.aload_n 0, 1) := by decide +kernel
theorem dX7_writeRing_35 : decode cX7_writeRing 35 = .ok (.getfield 10, 3) := by decide +kernel
theorem dX7_writeRing_38 : decode cX7_writeRing 38 = .ok (.getfield 249, 3) := by decide +kernel
theorem dX7_writeRing_41 : decode cX7_writeRing 41 = .ok (.getfield 253, 3) := by decide +kernel
theorem dX7_writeRing_44 : decode cX7_writeRing 44 = .ok (.iload_n 1, 1) := by decide +kernel
theorem dX7_writeRing_45 : decode cX7_writeRing 45 = .ok (.iaload, 1) := by decide +kernel
theorem dX7_writeRing_46 : decode cX7_writeRing 46 = .ok (.invokevirtual 365, 3) := by decide +kernel
theorem dX7_writeRing_49 : decode cX7_writeRing 49 = .ok (.pop, 1) := by decide +kernel
theorem dX7_writeRing_50 : decode cX7_writeRing 50 = .ok (.iinc 1 1, 3) := by decide +kernel
theorem dX7_writeRing_53 : decode cX7_writeRing 53 = .ok (.goto (-43), 3) := by decide +kernel
theorem dX7_writeRing_56 : decode cX7_writeRing 56 = .ok (.aload_n 0, 1) := by decide +kernel
theorem dX7_writeRing_57 : decode cX7_writeRing 57 = .ok (.getfield 46, 3) := by decide +kernel
theorem dX7_writeRing_60 : decode cX7_writeRing 60 = .ok (.invokevirtual 372, 3) := by decide +kernel
theorem dX7_writeRing_63 : decode cX7_writeRing 63 = .ok (.ireturn, 1) := by decide +kernel
theorem dX7_outputAt_0 : decode cX7_outputAt 0 = .ok (.iload_n 1, 1) := by decide +kernel
theorem dX7_outputAt_1 : decode cX7_outputAt 1 = .ok (.ifCond .lt 14, 3) := by decide +kernel
theorem dX7_outputAt_4 : decode cX7_outputAt 4 = .ok (.iload_n 1, 1) := by decide +kernel
theorem dX7_outputAt_5 : decode cX7_outputAt 5 = .ok (.aload_n 0, 1) := by decide +kernel
theorem dX7_outputAt_6 : decode cX7_outputAt 6 = .ok (.getfield 46, 3) := by decide +kernel
theorem dX7_outputAt_9 : decode cX7_outputAt 9 = .ok (.invokevirtual 372, 3) := by decide +kernel
theorem dX7_outputAt_12 : decode cX7_outputAt 12 = .ok (.if_icmp .lt 14, 3) := by decide +kernel
theorem dX7_outputAt_15 : decode cX7_outputAt 15 = .ok (.new 150, 3) := by decide +kernel
theorem dX7_outputAt_18 : decode cX7_outputAt 18 = .ok (.dup, 1) := by decide +kernel
theorem dX7_outputAt_19 : decode cX7_outputAt 19 = .ok (.ldc_w 374, 3) := by decide +kernel
theorem dX7_outputAt_22 : decode cX7_outputAt 22 = .ok (.invokespecial 154, 3) := by decide +kernel
theorem dX7_outputAt_25 : decode cX7_outputAt 25 = .ok (.athrow, 1) := by decide +kernel
theorem dX7_outputAt_26 : decode cX7_outputAt 26 = .ok (.aload_n 0, 1) := by decide +kernel
theorem dX7_outputAt_27 : decode cX7_outputAt 27 = .ok (.getfield 46, 3) := by decide +kernel
theorem dX7_outputAt_30 : decode cX7_outputAt 30 = .ok (.iload_n 1, 1) := by decide +kernel
theorem dX7_outputAt_31 : decode cX7_outputAt 31 = .ok (.invokevirtual 376, 3) := by decide +kernel
theorem dX7_outputAt_34 : decode cX7_outputAt 34 = .ok (.ireturn, 1) := by decide +kernel
theorem dX7_undo_0 : decode cX7_undo 0 = .ok (.aload_n 0, 1) := by decide +kernel
theorem dX7_undo_1 : decode cX7_undo 1 = .ok (.getfield 25, 3) := by decide +kernel
theorem dX7_undo_4 : decode cX7_undo 4 = .ok (.getfield 380, 3) := by decide +kernel
theorem dX7_undo_7 : decode cX7_undo 7 = .ok (.ifCond .ne 14, 3) := by decide +kernel
theorem dX7_undo_10 : decode cX7_undo 10 = .ok (.new 76, 3) := by decide +kernel
theorem dX7_undo_13 : decode cX7_undo 13 = .ok (.dup, 1) := by decide +kernel
theorem dX7_undo_14 : decode cX7_undo 14 = .ok (.ldc_w 383, 3) := by decide +kernel
theorem dX7_undo_17 : decode cX7_undo 17 = .ok (.invokespecial 80, 3) := by decide +kernel
theorem dX7_undo_20 : decode cX7_undo 20 = .ok (.athrow, 1) := by decide +kernel
theorem dX7_undo_21 : decode cX7_undo 21 = .ok (.aload_n 0, 1) := by decide +kernel
theorem dX7_undo_22 : decode cX7_undo 22 = .ok (.getfield 25, 3) := by decide +kernel
theorem dX7_undo_25 : decode cX7_undo 25 = .ok (.aload_n 0, 1) := by decide +kernel
theorem dX7_undo_26 : decode cX7_undo 26 = .ok (.getfield 10, 3) := by decide +kernel
theorem dX7_undo_29 : decode cX7_undo 29 = .ok (.invokevirtual 385, 3) := by decide +kernel
theorem dX7_undo_32 : decode cX7_undo 32 = .ok (.aload_n 0, 1) := by decide +kernel
theorem dX7_undo_33 : decode cX7_undo 33 = .ok (.getfield 25, 3) := by decide +kernel
theorem dX7_undo_36 : decode cX7_undo 36 = .ok (.getfield 380, 3) := by decide +kernel
theorem dX7_undo_39 : decode cX7_undo 39 = .ok (.ireturn, 1) := by decide +kernel
theorem dX7_save_0 : decode cX7_save 0 = .ok (.aload_n 0, 1) := by decide +kernel
theorem dX7_save_1 : decode cX7_save 1 = .ok (.getfield 16, 3) := by decide +kernel
theorem dX7_save_4 : decode cX7_save 4 = .ok (.aload_n 0, 1) := by decide +kernel
theorem dX7_save_5 : decode cX7_save 5 = .ok (.getfield 10, 3) := by decide +kernel
theorem dX7_save_8 : decode cX7_save 8 = .ok (.invokevirtual 338, 3) := by decide +kernel
theorem dX7_save_11 : decode cX7_save 11 = .ok (.aload_n 0, 1) := by decide +kernel
theorem dX7_save_12 : decode cX7_save 12 = .ok (.iconst 1, 1) := by decide +kernel
theorem dX7_save_13 : decode cX7_save 13 = .ok (.putfield 50, 3) := by decide +kernel
theorem dX7_save_16 : decode cX7_save 16 = .ok (.return_, 1) := by decide +kernel
theorem dX7_restore_0 : decode cX7_restore 0 = .ok (.aload_n 0, 1) := by decide +kernel
theorem dX7_restore_1 : decode cX7_restore 1 = .ok (.getfield 50, 3) := by decide +kernel
theorem dX7_restore_4 : decode cX7_restore 4 = .ok (.ifCond .ne 14, 3) := by decide +kernel
theorem dX7_restore_7 : decode cX7_restore 7 = .ok (.new 76, 3) := by decide +kernel
theorem dX7_restore_10 : decode cX7_restore 10 = .ok (.dup, 1) := by decide +kernel
theorem dX7_restore_11 : decode cX7_restore 11 = .ok (.ldc_w 388, 3) := by decide +kernel
theorem dX7_restore_14 : decode cX7_restore 14 = .ok (.invokespecial 80, 3) := by decide +kernel
theorem dX7_restore_17 : decode cX7_restore 17 = .ok (.athrow, 1) := by decide +kernel
theorem dX7_restore_18 : decode cX7_restore 18 = .ok (.aload_n 0, 1) := by decide +kernel
theorem dX7_restore_19 : decode cX7_restore 19 = .ok (.getfield 10, 3) := by decide +kernel
theorem dX7_restore_22 : decode cX7_restore 22 = .ok (.aload_n 0, 1) := by decide +kernel
theorem dX7_restore_23 : decode cX7_restore 23 = .ok (.getfield 16, 3) := by decide +kernel
theorem dX7_restore_26 : decode cX7_restore 26 = .ok (.invokevirtual 338, 3) := by decide +kernel
theorem dX7_restore_29 : decode cX7_restore 29 = .ok (.aload_n 0, 1) := by decide +kernel
theorem dX7_restore_30 : decode cX7_restore 30 = .ok (.getfield 25, 3) := by decide +kernel
theorem dX7_restore_33 : decode cX7_restore 33 = .ok (.iconst 0, 1) := by decide +kernel
theorem dX7_restore_34 : decode cX7_restore 34 = .ok (.putfield 380, 3) := by decide +kernel
theorem dX7_restore_37 : decode cX7_restore 37 = .ok (.return_, 1) := by decide +kernel
theorem dX7_existing_0 : decode cX7_existing 0 = .ok (.aload_n 0, 1) := by decide +kernel
theorem dX7_existing_1 : decode cX7_existing 1 = .ok (.getfield 10, 3) := by decide +kernel
theorem dX7_existing_4 : decode cX7_existing 4 = .ok (.iload_n 1, 1) := by decide +kernel
theorem dX7_existing_5 : decode cX7_existing 5 = .ok (.invokevirtual 390, 3) := by decide +kernel
theorem dX7_existing_8 : decode cX7_existing 8 = .ok (.astore_n 2, 1) := by decide +kernel
theorem dX7_existing_9 : decode cX7_existing 9 = .ok (.aload_n 2, 1) := by decide +kernel
theorem dX7_existing_10 : decode cX7_existing 10 = .ok (.ifnonnull 14, 3) := by decide +kernel
theorem dX7_existing_13 : decode cX7_existing 13 = .ok (.new 355, 3) := by decide +kernel
theorem dX7_existing_16 : decode cX7_existing 16 = .ok (.dup, 1) := by decide +kernel
theorem dX7_existing_17 : decode cX7_existing 17 = .ok (.ldc_w 393, 3) := by decide +kernel
theorem dX7_existing_20 : decode cX7_existing 20 = .ok (.invokespecial 359, 3) := by decide +kernel
theorem dX7_existing_23 : decode cX7_existing 23 = .ok (.athrow, 1) := by decide +kernel
theorem dX7_existing_24 : decode cX7_existing 24 = .ok (.aload_n 2, 1) := by decide +kernel
theorem dX7_existing_25 : decode cX7_existing 25 = .ok (.areturn, 1) := by decide +kernel
theorem dX7_carryOut_0 : decode cX7_carryOut 0 = .ok (.iload_n 1, 1) := by decide +kernel
theorem dX7_carryOut_1 : decode cX7_carryOut 1 = .ok (.tableswitch 181 0 6 #[43, 79, 88, 95, 102, 122, 162], 43) := by decide +kernel
theorem dX7_carryOut_44 : decode cX7_carryOut 44 = .ok (.iload_n 2, 1) := by decide +kernel
theorem dX7_carryOut_45 : decode cX7_carryOut 45 = .ok (.iload_n 3, 1) := by decide +kernel
theorem dX7_carryOut_46 : decode cX7_carryOut 46 = .ok (.iload 4, 2) := by decide +kernel
theorem dX7_carryOut_48 : decode cX7_carryOut 48 = .ok (.invokestatic 61, 3) := by decide +kernel
theorem dX7_carryOut_51 : decode cX7_carryOut 51 = .ok (.ifCond .eq 13, 3) := by decide +kernel
theorem dX7_carryOut_54 : decode cX7_carryOut 54 = .ok (.aload_n 0, 1) := by decide +kernel
theorem dX7_carryOut_55 : decode cX7_carryOut 55 = .ok (.getfield 10, 3) := by decide +kernel
theorem dX7_carryOut_58 : decode cX7_carryOut 58 = .ok (.invokevirtual 72, 3) := by decide +kernel
theorem dX7_carryOut_61 : decode cX7_carryOut 61 = .ok (.ifCond .ne 5, 3) := by decide +kernel
theorem dX7_carryOut_64 : decode cX7_carryOut 64 = .ok (.iconst 0, 1) := by decide +kernel
theorem dX7_carryOut_65 : decode cX7_carryOut 65 = .ok (.ireturn, 1) := by decide +kernel
theorem dX7_carryOut_66 : decode cX7_carryOut 66 = .ok (.aload_n 0, 1) := by decide +kernel
theorem dX7_carryOut_67 : decode cX7_carryOut 67 = .ok (.getfield 10, 3) := by decide +kernel
theorem dX7_carryOut_70 : decode cX7_carryOut 70 = .ok (.iload_n 2, 1) := by decide +kernel
theorem dX7_carryOut_71 : decode cX7_carryOut 71 = .ok (.iload_n 3, 1) := by decide +kernel
theorem dX7_carryOut_72 : decode cX7_carryOut 72 = .ok (.iload 4, 2) := by decide +kernel
theorem dX7_carryOut_74 : decode cX7_carryOut 74 = .ok (.invokevirtual 85, 3) := by decide +kernel
theorem dX7_carryOut_77 : decode cX7_carryOut 77 = .ok (.pop, 1) := by decide +kernel
theorem dX7_carryOut_78 : decode cX7_carryOut 78 = .ok (.iconst 1, 1) := by decide +kernel
theorem dX7_carryOut_79 : decode cX7_carryOut 79 = .ok (.ireturn, 1) := by decide +kernel
theorem dX7_carryOut_80 : decode cX7_carryOut 80 = .ok (.aload_n 0, 1) := by decide +kernel
theorem dX7_carryOut_81 : decode cX7_carryOut 81 = .ok (.getfield 10, 3) := by decide +kernel
theorem dX7_carryOut_84 : decode cX7_carryOut 84 = .ok (.iload_n 2, 1) := by decide +kernel
theorem dX7_carryOut_85 : decode cX7_carryOut 85 = .ok (.invokevirtual 98, 3) := by decide +kernel
theorem dX7_carryOut_88 : decode cX7_carryOut 88 = .ok (.ireturn, 1) := by decide +kernel
theorem dX7_carryOut_89 : decode cX7_carryOut 89 = .ok (.aload_n 0, 1) := by decide +kernel
theorem dX7_carryOut_90 : decode cX7_carryOut 90 = .ok (.iload_n 2, 1) := by decide +kernel
theorem dX7_carryOut_91 : decode cX7_carryOut 91 = .ok (.iload_n 3, 1) := by decide +kernel
theorem dX7_carryOut_92 : decode cX7_carryOut 92 = .ok (.invokevirtual 395, 3) := by decide +kernel
theorem dX7_carryOut_95 : decode cX7_carryOut 95 = .ok (.ireturn, 1) := by decide +kernel
theorem dX7_carryOut_96 : decode cX7_carryOut 96 = .ok (.aload_n 0, 1) := by decide +kernel
theorem dX7_carryOut_97 : decode cX7_carryOut 97 = .ok (.iload_n 2, 1) := by decide +kernel
theorem dX7_carryOut_98 : decode cX7_carryOut 98 = .ok (.iload_n 3, 1) := by decide +kernel
theorem dX7_carryOut_99 : decode cX7_carryOut 99 = .ok (.invokevirtual 398, 3) := by decide +kernel
theorem dX7_carryOut_102 : decode cX7_carryOut 102 = .ok (.ireturn, 1) := by decide +kernel
theorem dX7_carryOut_103 : decode cX7_carryOut 103 = .ok (.iload_n 2, 1) := by decide +kernel
theorem dX7_carryOut_104 : decode cX7_carryOut 104 = .ok (.invokestatic 138, 3) := by decide +kernel
theorem dX7_carryOut_107 : decode cX7_carryOut 107 = .ok (.ifCond .ne 5, 3) := by decide +kernel
theorem dX7_carryOut_110 : decode cX7_carryOut 110 = .ok (.iconst 0, 1) := by decide +kernel
theorem dX7_carryOut_111 : decode cX7_carryOut 111 = .ok (.ireturn, 1) := by decide +kernel
theorem dX7_carryOut_112 : decode cX7_carryOut 112 = .ok (.aload_n 0, 1) := by decide +kernel
theorem dX7_carryOut_113 : decode cX7_carryOut 113 = .ok (.getfield 10, 3) := by decide +kernel
theorem dX7_carryOut_116 : decode cX7_carryOut 116 = .ok (.iload_n 2, 1) := by decide +kernel
theorem dX7_carryOut_117 : decode cX7_carryOut 117 = .ok (.invokevirtual 143, 3) := by decide +kernel
theorem dX7_carryOut_120 : decode cX7_carryOut 120 = .ok (.pop, 1) := by decide +kernel
theorem dX7_carryOut_121 : decode cX7_carryOut 121 = .ok (.iconst 1, 1) := by decide +kernel
theorem dX7_carryOut_122 : decode cX7_carryOut 122 = .ok (.ireturn, 1) := by decide +kernel
theorem dX7_carryOut_123 : decode cX7_carryOut 123 = .ok (.iload_n 2, 1) := by decide +kernel
theorem dX7_carryOut_124 : decode cX7_carryOut 124 = .ok (.invokestatic 147, 3) := by decide +kernel
theorem dX7_carryOut_127 : decode cX7_carryOut 127 = .ok (.ifCond .eq 22, 3) := by decide +kernel
theorem dX7_carryOut_130 : decode cX7_carryOut 130 = .ok (.iload_n 3, 1) := by decide +kernel
theorem dX7_carryOut_131 : decode cX7_carryOut 131 = .ok (.invokestatic 155, 3) := by decide +kernel
theorem dX7_carryOut_134 : decode cX7_carryOut 134 = .ok (.ifCond .eq 15, 3) := by decide +kernel
theorem dX7_carryOut_137 : decode cX7_carryOut 137 = .ok (.aload_n 0, 1) := by decide +kernel
theorem dX7_carryOut_138 : decode cX7_carryOut 138 = .ok (.getfield 10, 3) := by decide +kernel
theorem dX7_carryOut_141 : decode cX7_carryOut 141 = .ok (.iload_n 2, 1) := by decide +kernel
theorem dX7_carryOut_142 : decode cX7_carryOut 142 = .ok (.iload_n 3, 1) := by decide +kernel
theorem dX7_carryOut_143 : decode cX7_carryOut 143 = .ok (.invokevirtual 160, 3) := by decide +kernel
theorem dX7_carryOut_146 : decode cX7_carryOut 146 = .ok (.ifCond .ne 5, 3) := by decide +kernel
theorem dX7_carryOut_149 : decode cX7_carryOut 149 = .ok (.iconst 0, 1) := by decide +kernel
theorem dX7_carryOut_150 : decode cX7_carryOut 150 = .ok (.ireturn, 1) := by decide +kernel
theorem dX7_carryOut_151 : decode cX7_carryOut 151 = .ok (.aload_n 0, 1) := by decide +kernel
theorem dX7_carryOut_152 : decode cX7_carryOut 152 = .ok (.getfield 10, 3) := by decide +kernel
theorem dX7_carryOut_155 : decode cX7_carryOut 155 = .ok (.iload_n 2, 1) := by decide +kernel
theorem dX7_carryOut_156 : decode cX7_carryOut 156 = .ok (.iload_n 3, 1) := by decide +kernel
theorem dX7_carryOut_157 : decode cX7_carryOut 157 = .ok (.invokevirtual 164, 3) := by decide +kernel
theorem dX7_carryOut_160 : decode cX7_carryOut 160 = .ok (.pop, 1) := by decide +kernel
theorem dX7_carryOut_161 : decode cX7_carryOut 161 = .ok (.iconst 1, 1) := by decide +kernel
theorem dX7_carryOut_162 : decode cX7_carryOut 162 = .ok (.ireturn, 1) := by decide +kernel
theorem dX7_carryOut_163 : decode cX7_carryOut 163 = .ok (.iload_n 2, 1) := by decide +kernel
theorem dX7_carryOut_164 : decode cX7_carryOut 164 = .ok (.invokestatic 168, 3) := by decide +kernel
theorem dX7_carryOut_167 : decode cX7_carryOut 167 = .ok (.ifCond .ne 5, 3) := by decide +kernel
theorem dX7_carryOut_170 : decode cX7_carryOut 170 = .ok (.iconst 0, 1) := by decide +kernel
theorem dX7_carryOut_171 : decode cX7_carryOut 171 = .ok (.ireturn, 1) := by decide +kernel
theorem dX7_carryOut_172 : decode cX7_carryOut 172 = .ok (.aload_n 0, 1) := by decide +kernel
theorem dX7_carryOut_173 : decode cX7_carryOut 173 = .ok (.getfield 10, 3) := by decide +kernel
theorem dX7_carryOut_176 : decode cX7_carryOut 176 = .ok (.iload_n 2, 1) := by decide +kernel
theorem dX7_carryOut_177 : decode cX7_carryOut 177 = .ok (.putfield 173, 3) := by decide +kernel
theorem dX7_carryOut_180 : decode cX7_carryOut 180 = .ok (.iconst 1, 1) := by decide +kernel
theorem dX7_carryOut_181 : decode cX7_carryOut 181 = .ok (.ireturn, 1) := by decide +kernel
theorem dX7_carryOut_182 : decode cX7_carryOut 182 = .ok (.iconst 0, 1) := by decide +kernel
theorem dX7_carryOut_183 : decode cX7_carryOut 183 = .ok (.ireturn, 1) := by decide +kernel
theorem dX7_turn_0 : decode cX7_turn 0 = .ok (.aload_n 0, 1) := by decide +kernel
theorem dX7_turn_1 : decode cX7_turn 1 = .ok (.getfield 10, 3) := by decide +kernel
theorem dX7_turn_4 : decode cX7_turn 4 = .ok (.iload_n 1, 1) := by decide +kernel
theorem dX7_turn_5 : decode cX7_turn 5 = .ok (.invokevirtual 390, 3) := by decide +kernel
theorem dX7_turn_8 : decode cX7_turn 8 = .ok (.astore_n 3, 1) := by decide +kernel
theorem dX7_turn_9 : decode cX7_turn 9 = .ok (.aload_n 3, 1) := by decide +kernel
theorem dX7_turn_10 : decode cX7_turn 10 = .ok (.ifnull 10, 3) := by decide +kernel
theorem dX7_turn_13 : decode cX7_turn 13 = .ok (.iload_n 2, 1) := by decide +kernel
theorem dX7_turn_14 : decode cX7_turn 14 = .ok (.invokestatic 105, 3) := by decide +kernel
theorem dX7_turn_17 : decode cX7_turn 17 = .ok (.ifCond .ne 5, 3) := by decide +kernel
theorem dX7_turn_20 : decode cX7_turn 20 = .ok (.iconst 0, 1) := by decide +kernel
theorem dX7_turn_21 : decode cX7_turn 21 = .ok (.ireturn, 1) := by decide +kernel
theorem dX7_turn_22 : decode cX7_turn 22 = .ok (.aload_n 3, 1) := by decide +kernel
theorem dX7_turn_23 : decode cX7_turn 23 = .ok (.iload_n 2, 1) := by decide +kernel
theorem dX7_turn_24 : decode cX7_turn 24 = .ok (.putfield 110, 3) := by decide +kernel
theorem dX7_turn_27 : decode cX7_turn 27 = .ok (.iconst 1, 1) := by decide +kernel
theorem dX7_turn_28 : decode cX7_turn 28 = .ok (.ireturn, 1) := by decide +kernel
theorem dX7_shine_0 : decode cX7_shine 0 = .ok (.aload_n 0, 1) := by decide +kernel
theorem dX7_shine_1 : decode cX7_shine 1 = .ok (.getfield 10, 3) := by decide +kernel
theorem dX7_shine_4 : decode cX7_shine 4 = .ok (.iload_n 1, 1) := by decide +kernel
theorem dX7_shine_5 : decode cX7_shine 5 = .ok (.invokevirtual 390, 3) := by decide +kernel
theorem dX7_shine_8 : decode cX7_shine 8 = .ok (.astore_n 3, 1) := by decide +kernel
theorem dX7_shine_9 : decode cX7_shine 9 = .ok (.aload_n 3, 1) := by decide +kernel
theorem dX7_shine_10 : decode cX7_shine 10 = .ok (.ifnull 29, 3) := by decide +kernel
theorem dX7_shine_13 : decode cX7_shine 13 = .ok (.iload_n 2, 1) := by decide +kernel
theorem dX7_shine_14 : decode cX7_shine 14 = .ok (.invokestatic 113, 3) := by decide +kernel
theorem dX7_shine_17 : decode cX7_shine 17 = .ok (.ifCond .eq 22, 3) := by decide +kernel
theorem dX7_shine_20 : decode cX7_shine 20 = .ok (.aload_n 3, 1) := by decide +kernel
theorem dX7_shine_21 : decode cX7_shine 21 = .ok (.iload_n 2, 1) := by decide +kernel
theorem dX7_shine_22 : decode cX7_shine 22 = .ok (.invokevirtual 118, 3) := by decide +kernel
theorem dX7_shine_25 : decode cX7_shine 25 = .ok (.ifCond .eq 14, 3) := by decide +kernel
theorem dX7_shine_28 : decode cX7_shine 28 = .ok (.aload_n 0, 1) := by decide +kernel
theorem dX7_shine_29 : decode cX7_shine 29 = .ok (.getfield 10, 3) := by decide +kernel
theorem dX7_shine_32 : decode cX7_shine 32 = .ok (.iload_n 2, 1) := by decide +kernel
theorem dX7_shine_33 : decode cX7_shine 33 = .ok (.invokevirtual 123, 3) := by decide +kernel
theorem dX7_shine_36 : decode cX7_shine 36 = .ok (.ifCond .ne 5, 3) := by decide +kernel
theorem dX7_shine_39 : decode cX7_shine 39 = .ok (.iconst 0, 1) := by decide +kernel
theorem dX7_shine_40 : decode cX7_shine 40 = .ok (.ireturn, 1) := by decide +kernel
theorem dX7_shine_41 : decode cX7_shine 41 = .ok (.aload_n 0, 1) := by decide +kernel
theorem dX7_shine_42 : decode cX7_shine 42 = .ok (.getfield 10, 3) := by decide +kernel
theorem dX7_shine_45 : decode cX7_shine 45 = .ok (.aload_n 3, 1) := by decide +kernel
theorem dX7_shine_46 : decode cX7_shine 46 = .ok (.iload_n 2, 1) := by decide +kernel
theorem dX7_shine_47 : decode cX7_shine 47 = .ok (.invokevirtual 131, 3) := by decide +kernel
theorem dX7_shine_50 : decode cX7_shine 50 = .ok (.iconst 1, 1) := by decide +kernel
theorem dX7_shine_51 : decode cX7_shine 51 = .ok (.ireturn, 1) := by decide +kernel
theorem dX7_isNewComet_0 : decode cX7_isNewComet 0 = .ok (.iload_n 0, 1) := by decide +kernel
theorem dX7_isNewComet_1 : decode cX7_isNewComet 1 = .ok (.invokestatic 105, 3) := by decide +kernel
theorem dX7_isNewComet_4 : decode cX7_isNewComet 4 = .ok (.ifCond .eq 25, 3) := by decide +kernel
theorem dX7_isNewComet_7 : decode cX7_isNewComet 7 = .ok (.iload_n 1, 1) := by decide +kernel
theorem dX7_isNewComet_8 : decode cX7_isNewComet 8 = .ok (.invokestatic 138, 3) := by decide +kernel
theorem dX7_isNewComet_11 : decode cX7_isNewComet 11 = .ok (.ifCond .eq 18, 3) := by decide +kernel
theorem dX7_isNewComet_14 : decode cX7_isNewComet 14 = .ok (.iload_n 2, 1) := by decide +kernel
theorem dX7_isNewComet_15 : decode cX7_isNewComet 15 = .ok (.iconst 1, 1) := by decide +kernel
theorem dX7_isNewComet_16 : decode cX7_isNewComet 16 = .ok (.if_icmp .lt 13, 3) := by decide +kernel
theorem dX7_isNewComet_19 : decode cX7_isNewComet 19 = .ok (.iload_n 2, 1) := by decide +kernel
theorem dX7_isNewComet_20 : decode cX7_isNewComet 20 = .ok (.bipush 20, 2) := by decide +kernel
theorem dX7_isNewComet_22 : decode cX7_isNewComet 22 = .ok (.if_icmp .gt 7, 3) := by decide +kernel
theorem dX7_isNewComet_25 : decode cX7_isNewComet 25 = .ok (.iconst 1, 1) := by decide +kernel
theorem dX7_isNewComet_26 : decode cX7_isNewComet 26 = .ok (.goto 4, 3) := by decide +kernel
theorem dX7_isNewComet_29 : decode cX7_isNewComet 29 = .ok (.iconst 0, 1) := by decide +kernel
theorem dX7_isNewComet_30 : decode cX7_isNewComet 30 = .ok (.ireturn, 1) := by decide +kernel
theorem dX7_isPeriod_0 : decode cX7_isPeriod 0 = .ok (.iload_n 0, 1) := by decide +kernel
theorem dX7_isPeriod_1 : decode cX7_isPeriod 1 = .ok (.iconst 2, 1) := by decide +kernel
theorem dX7_isPeriod_2 : decode cX7_isPeriod 2 = .ok (.if_icmp .lt 13, 3) := by decide +kernel
theorem dX7_isPeriod_5 : decode cX7_isPeriod 5 = .ok (.iload_n 0, 1) := by decide +kernel
theorem dX7_isPeriod_6 : decode cX7_isPeriod 6 = .ok (.bipush 60, 2) := by decide +kernel
theorem dX7_isPeriod_8 : decode cX7_isPeriod 8 = .ok (.if_icmp .gt 7, 3) := by decide +kernel
theorem dX7_isPeriod_11 : decode cX7_isPeriod 11 = .ok (.iconst 1, 1) := by decide +kernel
theorem dX7_isPeriod_12 : decode cX7_isPeriod 12 = .ok (.goto 4, 3) := by decide +kernel
theorem dX7_isPeriod_15 : decode cX7_isPeriod 15 = .ok (.iconst 0, 1) := by decide +kernel
theorem dX7_isPeriod_16 : decode cX7_isPeriod 16 = .ok (.ireturn, 1) := by decide +kernel
theorem dX7_isAmount_0 : decode cX7_isAmount 0 = .ok (.iload_n 0, 1) := by decide +kernel
theorem dX7_isAmount_1 : decode cX7_isAmount 1 = .ok (.iconst 1, 1) := by decide +kernel
theorem dX7_isAmount_2 : decode cX7_isAmount 2 = .ok (.if_icmp .lt 13, 3) := by decide +kernel
theorem dX7_isAmount_5 : decode cX7_isAmount 5 = .ok (.iload_n 0, 1) := by decide +kernel
theorem dX7_isAmount_6 : decode cX7_isAmount 6 = .ok (.bipush 20, 2) := by decide +kernel
theorem dX7_isAmount_8 : decode cX7_isAmount 8 = .ok (.if_icmp .ge 7, 3) := by decide +kernel
theorem dX7_isAmount_11 : decode cX7_isAmount 11 = .ok (.iconst 1, 1) := by decide +kernel
theorem dX7_isAmount_12 : decode cX7_isAmount 12 = .ok (.goto 4, 3) := by decide +kernel
theorem dX7_isAmount_15 : decode cX7_isAmount 15 = .ok (.iconst 0, 1) := by decide +kernel
theorem dX7_isAmount_16 : decode cX7_isAmount 16 = .ok (.ireturn, 1) := by decide +kernel
theorem dX7_isSpanOfDays_0 : decode cX7_isSpanOfDays 0 = .ok (.iload_n 0, 1) := by decide +kernel
theorem dX7_isSpanOfDays_1 : decode cX7_isSpanOfDays 1 = .ok (.iconst 1, 1) := by decide +kernel
theorem dX7_isSpanOfDays_2 : decode cX7_isSpanOfDays 2 = .ok (.if_icmp .lt 13, 3) := by decide +kernel
theorem dX7_isSpanOfDays_5 : decode cX7_isSpanOfDays 5 = .ok (.iload_n 0, 1) := by decide +kernel
theorem dX7_isSpanOfDays_6 : decode cX7_isSpanOfDays 6 = .ok (.bipush 60, 2) := by decide +kernel
theorem dX7_isSpanOfDays_8 : decode cX7_isSpanOfDays 8 = .ok (.if_icmp .gt 7, 3) := by decide +kernel
theorem dX7_isSpanOfDays_11 : decode cX7_isSpanOfDays 11 = .ok (.iconst 1, 1) := by decide +kernel
theorem dX7_isSpanOfDays_12 : decode cX7_isSpanOfDays 12 = .ok (.goto 4, 3) := by decide +kernel
theorem dX7_isSpanOfDays_15 : decode cX7_isSpanOfDays 15 = .ok (.iconst 0, 1) := by decide +kernel
theorem dX7_isSpanOfDays_16 : decode cX7_isSpanOfDays 16 = .ok (.ireturn, 1) := by decide +kernel
theorem dX7_isSpanToLookAt_0 : decode cX7_isSpanToLookAt 0 = .ok (.iload_n 0, 1) := by decide +kernel
theorem dX7_isSpanToLookAt_1 : decode cX7_isSpanToLookAt 1 = .ok (.ifCond .lt 13, 3) := by decide +kernel
theorem dX7_isSpanToLookAt_4 : decode cX7_isSpanToLookAt 4 = .ok (.iload_n 0, 1) := by decide +kernel
theorem dX7_isSpanToLookAt_5 : decode cX7_isSpanToLookAt 5 = .ok (.bipush 60, 2) := by decide +kernel
theorem dX7_isSpanToLookAt_7 : decode cX7_isSpanToLookAt 7 = .ok (.if_icmp .gt 7, 3) := by decide +kernel
theorem dX7_isSpanToLookAt_10 : decode cX7_isSpanToLookAt 10 = .ok (.iconst 1, 1) := by decide +kernel
theorem dX7_isSpanToLookAt_11 : decode cX7_isSpanToLookAt 11 = .ok (.goto 4, 3) := by decide +kernel
theorem dX7_isSpanToLookAt_14 : decode cX7_isSpanToLookAt 14 = .ok (.iconst 0, 1) := by decide +kernel
theorem dX7_isSpanToLookAt_15 : decode cX7_isSpanToLookAt 15 = .ok (.ireturn, 1) := by decide +kernel
theorem dX7_isPlace_0 : decode cX7_isPlace 0 = .ok (.iload_n 0, 1) := by decide +kernel
theorem dX7_isPlace_1 : decode cX7_isPlace 1 = .ok (.ifCond .lt 13, 3) := by decide +kernel
theorem dX7_isPlace_4 : decode cX7_isPlace 4 = .ok (.iload_n 0, 1) := by decide +kernel
theorem dX7_isPlace_5 : decode cX7_isPlace 5 = .ok (.bipush 12, 2) := by decide +kernel
theorem dX7_isPlace_7 : decode cX7_isPlace 7 = .ok (.if_icmp .ge 7, 3) := by decide +kernel
theorem dX7_isPlace_10 : decode cX7_isPlace 10 = .ok (.iconst 1, 1) := by decide +kernel
theorem dX7_isPlace_11 : decode cX7_isPlace 11 = .ok (.goto 4, 3) := by decide +kernel
theorem dX7_isPlace_14 : decode cX7_isPlace 14 = .ok (.iconst 0, 1) := by decide +kernel
theorem dX7_isPlace_15 : decode cX7_isPlace 15 = .ok (.ireturn, 1) := by decide +kernel
theorem dX7_isLengthOfArc_0 : decode cX7_isLengthOfArc 0 = .ok (.iload_n 0, 1) := by decide +kernel
theorem dX7_isLengthOfArc_1 : decode cX7_isLengthOfArc 1 = .ok (.iconst 1, 1) := by decide +kernel
theorem dX7_isLengthOfArc_2 : decode cX7_isLengthOfArc 2 = .ok (.if_icmp .lt 13, 3) := by decide +kernel
theorem dX7_isLengthOfArc_5 : decode cX7_isLengthOfArc 5 = .ok (.iload_n 0, 1) := by decide +kernel
theorem dX7_isLengthOfArc_6 : decode cX7_isLengthOfArc 6 = .ok (.bipush 12, 2) := by decide +kernel
theorem dX7_isLengthOfArc_8 : decode cX7_isLengthOfArc 8 = .ok (.if_icmp .gt 7, 3) := by decide +kernel
theorem dX7_isLengthOfArc_11 : decode cX7_isLengthOfArc 11 = .ok (.iconst 1, 1) := by decide +kernel
theorem dX7_isLengthOfArc_12 : decode cX7_isLengthOfArc 12 = .ok (.goto 4, 3) := by decide +kernel
theorem dX7_isLengthOfArc_15 : decode cX7_isLengthOfArc 15 = .ok (.iconst 0, 1) := by decide +kernel
theorem dX7_isLengthOfArc_16 : decode cX7_isLengthOfArc 16 = .ok (.ireturn, 1) := by decide +kernel
theorem dX7_isRate_0 : decode cX7_isRate 0 = .ok (.iload_n 0, 1) := by decide +kernel
theorem dX7_isRate_1 : decode cX7_isRate 1 = .ok (.ifCond .lt 13, 3) := by decide +kernel
theorem dX7_isRate_4 : decode cX7_isRate 4 = .ok (.iload_n 0, 1) := by decide +kernel
theorem dX7_isRate_5 : decode cX7_isRate 5 = .ok (.bipush 9, 2) := by decide +kernel
theorem dX7_isRate_7 : decode cX7_isRate 7 = .ok (.if_icmp .gt 7, 3) := by decide +kernel
theorem dX7_isRate_10 : decode cX7_isRate 10 = .ok (.iconst 1, 1) := by decide +kernel
theorem dX7_isRate_11 : decode cX7_isRate 11 = .ok (.goto 4, 3) := by decide +kernel
theorem dX7_isRate_14 : decode cX7_isRate 14 = .ok (.iconst 0, 1) := by decide +kernel
theorem dX7_isRate_15 : decode cX7_isRate 15 = .ok (.ireturn, 1) := by decide +kernel
theorem dX7_tailAt_0 : decode cX7_tailAt 0 = .ok (.iconst 1, 1) := by decide +kernel
theorem dX7_tailAt_1 : decode cX7_tailAt 1 = .ok (.iload_n 0, 1) := by decide +kernel
theorem dX7_tailAt_2 : decode cX7_tailAt 2 = .ok (.iconst 5, 1) := by decide +kernel
theorem dX7_tailAt_3 : decode cX7_tailAt 3 = .ok (.idiv, 1) := by decide +kernel
theorem dX7_tailAt_4 : decode cX7_tailAt 4 = .ok (.iadd, 1) := by decide +kernel
theorem dX7_tailAt_5 : decode cX7_tailAt 5 = .ok (.ireturn, 1) := by decide +kernel
theorem dX8_init_0 : decode cX8_init 0 = .ok (.aload_n 0, 1) := by decide +kernel
theorem dX8_init_1 : decode cX8_init 1 = .ok (.invokespecial 1, 3) := by decide +kernel
theorem dX8_init_4 : decode cX8_init 4 = .ok (.aload_n 0, 1) := by decide +kernel
theorem dX8_init_5 : decode cX8_init 5 = .ok (.sipush 539, 3) := by decide +kernel
theorem dX8_init_8 : decode cX8_init 8 = .ok (.newarray .int, 2) := by decide +kernel
theorem dX8_init_10 : decode cX8_init 10 = .ok (.putfield 9, 3) := by decide +kernel
theorem dX8_init_13 : decode cX8_init 13 = .ok (.aload_n 0, 1) := by decide +kernel
theorem dX8_init_14 : decode cX8_init 14 = .ok (.bipush 62, 2) := by decide +kernel
theorem dX8_init_16 : decode cX8_init 16 = .ok (.newarray .int, 2) := by decide +kernel
theorem dX8_init_18 : decode cX8_init 18 = .ok (.putfield 13, 3) := by decide +kernel
theorem dX8_init_21 : decode cX8_init 21 = .ok (.aload_n 0, 1) := by decide +kernel
theorem dX8_init_22 : decode cX8_init 22 = .ok (.bipush 62, 2) := by decide +kernel
theorem dX8_init_24 : decode cX8_init 24 = .ok (.newarray .int, 2) := by decide +kernel
theorem dX8_init_26 : decode cX8_init 26 = .ok (.putfield 16, 3) := by decide +kernel
theorem dX8_init_29 : decode cX8_init 29 = .ok (.aload_n 0, 1) := by decide +kernel
theorem dX8_init_30 : decode cX8_init 30 = .ok (.bipush 60, 2) := by decide +kernel
theorem dX8_init_32 : decode cX8_init 32 = .ok (.newarray .char, 2) := by decide +kernel
theorem dX8_init_34 : decode cX8_init 34 = .ok (.putfield 19, 3) := by decide +kernel
theorem dX8_init_37 : decode cX8_init 37 = .ok (.aload_n 0, 1) := by decide +kernel
theorem dX8_init_38 : decode cX8_init 38 = .ok (.iconst (-1), 1) := by decide +kernel
theorem dX8_init_39 : decode cX8_init 39 = .ok (.putfield 23, 3) := by decide +kernel
theorem dX8_init_42 : decode cX8_init 42 = .ok (.aload_n 0, 1) := by decide +kernel
theorem dX8_init_43 : decode cX8_init 43 = .ok (.iconst (-1), 1) := by decide +kernel
theorem dX8_init_44 : decode cX8_init 44 = .ok (.putfield 27, 3) := by decide +kernel
theorem dX8_init_47 : decode cX8_init 47 = .ok (.aload_n 0, 1) := by decide +kernel
theorem dX8_init_48 : decode cX8_init 48 = .ok (.sipush 244, 3) := by decide +kernel
theorem dX8_init_51 : decode cX8_init 51 = .ok (.newarray .int, 2) := by decide +kernel
theorem dX8_init_53 : decode cX8_init 53 = .ok (.putfield 30, 3) := by decide +kernel
theorem dX8_init_56 : decode cX8_init 56 = .ok (.aload_n 0, 1) := by decide +kernel
theorem dX8_init_57 : decode cX8_init 57 = .ok (.sipush 160, 3) := by decide +kernel
theorem dX8_init_60 : decode cX8_init 60 = .ok (.newarray .char, 2) := by decide +kernel
theorem dX8_init_62 : decode cX8_init 62 = .ok (.putfield 33, 3) := by decide +kernel
theorem dX8_init_65 : decode cX8_init 65 = .ok (.aload_n 0, 1) := by decide +kernel
theorem dX8_init_66 : decode cX8_init 66 = .ok (.getfield 9, 3) := by decide +kernel
theorem dX8_init_69 : decode cX8_init 69 = .ok (.iconst 3, 1) := by decide +kernel
theorem dX8_init_70 : decode cX8_init 70 = .ok (.bipush 20, 2) := by decide +kernel
theorem dX8_init_72 : decode cX8_init 72 = .ok (.iastore, 1) := by decide +kernel
theorem dX8_init_73 : decode cX8_init 73 = .ok (.aload_n 0, 1) := by decide +kernel
theorem dX8_init_74 : decode cX8_init 74 = .ok (.getfield 9, 3) := by decide +kernel
theorem dX8_init_77 : decode cX8_init 77 = .ok (.iconst 4, 1) := by decide +kernel
theorem dX8_init_78 : decode cX8_init 78 = .ok (.iconst 2, 1) := by decide +kernel
theorem dX8_init_79 : decode cX8_init 79 = .ok (.iastore, 1) := by decide +kernel
theorem dX8_init_80 : decode cX8_init 80 = .ok (.return_, 1) := by decide +kernel
theorem dX8_thrown_0 : decode cX8_thrown 0 = .ok (.aload_n 0, 1) := by decide +kernel
theorem dX8_thrown_1 : decode cX8_thrown 1 = .ok (.getfield 36, 3) := by decide +kernel
theorem dX8_thrown_4 : decode cX8_thrown 4 = .ok (.ireturn, 1) := by decide +kernel
theorem dX8_in_0 : decode cX8_in 0 = .ok (.iload_n 0, 1) := by decide +kernel
theorem dX8_in_1 : decode cX8_in 1 = .ok (.iload_n 1, 1) := by decide +kernel
theorem dX8_in_2 : decode cX8_in 2 = .ok (.if_icmp .lt 12, 3) := by decide +kernel
theorem dX8_in_5 : decode cX8_in 5 = .ok (.iload_n 0, 1) := by decide +kernel
theorem dX8_in_6 : decode cX8_in 6 = .ok (.iload_n 2, 1) := by decide +kernel
theorem dX8_in_7 : decode cX8_in 7 = .ok (.if_icmp .gt 7, 3) := by decide +kernel
theorem dX8_in_10 : decode cX8_in 10 = .ok (.iconst 1, 1) := by decide +kernel
theorem dX8_in_11 : decode cX8_in 11 = .ok (.goto 4, 3) := by decide +kernel
theorem dX8_in_14 : decode cX8_in 14 = .ok (.iconst 0, 1) := by decide +kernel
theorem dX8_in_15 : decode cX8_in 15 = .ok (.ireturn, 1) := by decide +kernel
theorem dX8_copies_0 : decode cX8_copies 0 = .ok (.iconst 0, 1) := by decide +kernel
theorem dX8_copies_1 : decode cX8_copies 1 = .ok (.istore_n 3, 1) := by decide +kernel
theorem dX8_copies_2 : decode cX8_copies 2 = .ok (.iload_n 3, 1) := by decide +kernel
theorem dX8_copies_3 : decode cX8_copies 3 = .ok (.bipush 49, 2) := by decide +kernel
theorem dX8_copies_5 : decode cX8_copies 5 = .ok (.if_icmp .ge 31, 3) := by decide +kernel
theorem dX8_copies_8 : decode cX8_copies 8 = .ok (.aload_n 0, 1) := by decide +kernel
theorem dX8_copies_9 : decode cX8_copies 9 = .ok (.getfield 9, 3) := by decide +kernel
theorem dX8_copies_12 : decode cX8_copies 12 = .ok (.bipush 49, 2) := by decide +kernel
theorem dX8_copies_14 : decode cX8_copies 14 = .ok (.iload_n 2, 1) := by decide +kernel
theorem dX8_copies_15 : decode cX8_copies 15 = .ok (.imul, 1) := by decide +kernel
theorem dX8_copies_16 : decode cX8_copies 16 = .ok (.iload_n 3, 1) := by decide +kernel
theorem dX8_copies_17 : decode cX8_copies 17 = .ok (.iadd, 1) := by decide +kernel
theorem dX8_copies_18 : decode cX8_copies 18 = .ok (.aload_n 0, 1) := by decide +kernel
theorem dX8_copies_19 : decode cX8_copies 19 = .ok (.getfield 9, 3) := by decide +kernel
theorem dX8_copies_22 : decode cX8_copies 22 = .ok (.bipush 49, 2) := by decide +kernel
theorem dX8_copies_24 : decode cX8_copies 24 = .ok (.iload_n 1, 1) := by decide +kernel
theorem dX8_copies_25 : decode cX8_copies 25 = .ok (.imul, 1) := by decide +kernel
theorem dX8_copies_26 : decode cX8_copies 26 = .ok (.iload_n 3, 1) := by decide +kernel
theorem dX8_copies_27 : decode cX8_copies 27 = .ok (.iadd, 1) := by decide +kernel
theorem dX8_copies_28 : decode cX8_copies 28 = .ok (.iaload, 1) := by decide +kernel
theorem dX8_copies_29 : decode cX8_copies 29 = .ok (.iastore, 1) := by decide +kernel
theorem dX8_copies_30 : decode cX8_copies 30 = .ok (.iinc 3 1, 3) := by decide +kernel
theorem dX8_copies_33 : decode cX8_copies 33 = .ok (.goto (-31), 3) := by decide +kernel
theorem dX8_copies_36 : decode cX8_copies 36 = .ok (.return_, 1) := by decide +kernel
theorem dX8_begins_0 : decode cX8_begins 0 = .ok (.aload_n 0, 1) := by decide +kernel
theorem dX8_begins_1 : decode cX8_begins 1 = .ok (.iconst 0, 1) := by decide +kernel
theorem dX8_begins_2 : decode cX8_begins 2 = .ok (.bipush 10, 2) := by decide +kernel
theorem dX8_begins_4 : decode cX8_begins 4 = .ok (.invokevirtual 39, 3) := by decide +kernel
theorem dX8_begins_7 : decode cX8_begins 7 = .ok (.return_, 1) := by decide +kernel
theorem dX8_ends_0 : decode cX8_ends 0 = .ok (.aload_n 0, 1) := by decide +kernel
theorem dX8_ends_1 : decode cX8_ends 1 = .ok (.iload_n 1, 1) := by decide +kernel
theorem dX8_ends_2 : decode cX8_ends 2 = .ok (.iconst 1, 1) := by decide +kernel
theorem dX8_ends_3 : decode cX8_ends 3 = .ok (.if_icmp .ne 7, 3) := by decide +kernel
theorem dX8_ends_6 : decode cX8_ends 6 = .ok (.iload_n 2, 1) := by decide +kernel
theorem dX8_ends_7 : decode cX8_ends 7 = .ok (.goto 33, 3) := by decide +kernel
theorem dX8_ends_10 : decode cX8_ends 10 = .ok (.iload_n 1, 1) := by decide +kernel
theorem dX8_ends_11 : decode cX8_ends 11 = .ok (.iconst 2, 1) := by decide +kernel
theorem dX8_ends_12 : decode cX8_ends 12 = .ok (.if_icmp .ne 7, 3) := by decide +kernel
theorem dX8_ends_15 : decode cX8_ends 15 = .ok (.iload_n 3, 1) := by decide +kernel
theorem dX8_ends_16 : decode cX8_ends 16 = .ok (.goto 24, 3) := by decide +kernel
theorem dX8_ends_19 : decode cX8_ends 19 = .ok (.iload_n 1, 1) := by decide +kernel
theorem dX8_ends_20 : decode cX8_ends 20 = .ok (.iconst 3, 1) := by decide +kernel
theorem dX8_ends_21 : decode cX8_ends 21 = .ok (.if_icmp .ne 8, 3) := by decide +kernel
theorem dX8_ends_24 : decode cX8_ends 24 = .ok (.iload 4, 2) := by decide +kernel
theorem dX8_ends_26 : decode cX8_ends 26 = .ok (.goto 14, 3) := by decide +kernel
theorem dX8_ends_29 : decode cX8_ends 29 = .ok (.iload_n 1, 1) := by decide +kernel
theorem dX8_ends_30 : decode cX8_ends 30 = .ok (.iconst 4, 1) := by decide +kernel
theorem dX8_ends_31 : decode cX8_ends 31 = .ok (.if_icmp .ne 8, 3) := by decide +kernel
theorem dX8_ends_34 : decode cX8_ends 34 = .ok (.iload 5, 2) := by decide +kernel
theorem dX8_ends_36 : decode cX8_ends 36 = .ok (.goto 4, 3) := by decide +kernel
theorem dX8_ends_39 : decode cX8_ends 39 = .ok (.iconst 0, 1) := by decide +kernel
theorem dX8_ends_40 : decode cX8_ends 40 = .ok (.putfield 36, 3) := by decide +kernel
theorem dX8_ends_43 : decode cX8_ends 43 = .ok (.aload_n 0, 1) := by decide +kernel
theorem dX8_ends_44 : decode cX8_ends 44 = .ok (.getfield 36, 3) := by decide +kernel
theorem dX8_ends_47 : decode cX8_ends 47 = .ok (.ifCond .eq 12, 3) := by decide +kernel
theorem dX8_ends_50 : decode cX8_ends 50 = .ok (.aload_n 0, 1) := by decide +kernel
theorem dX8_ends_51 : decode cX8_ends 51 = .ok (.bipush 10, 2) := by decide +kernel
theorem dX8_ends_53 : decode cX8_ends 53 = .ok (.iconst 0, 1) := by decide +kernel
theorem dX8_ends_54 : decode cX8_ends 54 = .ok (.invokevirtual 39, 3) := by decide +kernel
theorem dX8_ends_57 : decode cX8_ends 57 = .ok (.iconst 0, 1) := by decide +kernel
theorem dX8_ends_58 : decode cX8_ends 58 = .ok (.ireturn, 1) := by decide +kernel
theorem dX8_ends_59 : decode cX8_ends 59 = .ok (.aload_n 0, 1) := by decide +kernel
theorem dX8_ends_60 : decode cX8_ends 60 = .ok (.getfield 43, 3) := by decide +kernel
theorem dX8_ends_63 : decode cX8_ends 63 = .ok (.bipush 8, 2) := by decide +kernel
theorem dX8_ends_65 : decode cX8_ends 65 = .ok (.if_icmp .ne 39, 3) := by decide +kernel
theorem dX8_ends_68 : decode cX8_ends 68 = .ok (.iconst 1, 1) := by decide +kernel
theorem dX8_ends_69 : decode cX8_ends 69 = .ok (.istore 6, 2) := by decide +kernel
theorem dX8_ends_71 : decode cX8_ends 71 = .ok (.iload 6, 2) := by decide +kernel
theorem dX8_ends_73 : decode cX8_ends 73 = .ok (.bipush 8, 2) := by decide +kernel
theorem dX8_ends_75 : decode cX8_ends 75 = .ok (.if_icmp .ge 19, 3) := by decide +kernel
theorem dX8_ends_78 : decode cX8_ends 78 = .ok (.aload_n 0, 1) := by decide +kernel
theorem dX8_ends_79 : decode cX8_ends 79 = .ok (.iload 6, 2) := by decide +kernel
theorem dX8_ends_81 : decode cX8_ends 81 = .ok (.iconst 1, 1) := by decide +kernel
theorem dX8_ends_82 : decode cX8_ends 82 = .ok (.iadd, 1) := by decide +kernel
theorem dX8_ends_83 : decode cX8_ends 83 = .ok (.iload 6, 2) := by decide +kernel
theorem dX8_ends_85 : decode cX8_ends 85 = .ok (.invokevirtual 39, 3) := by decide +kernel
theorem dX8_ends_88 : decode cX8_ends 88 = .ok (.iinc 6 1, 3) := by decide +kernel
theorem dX8_ends_91 : decode cX8_ends 91 = .ok (.goto (-20), 3) := by decide +kernel
theorem dX8_ends_94 : decode cX8_ends 94 = .ok (.aload_n 0, 1) := by decide +kernel
theorem dX8_ends_95 : decode cX8_ends 95 = .ok (.dup, 1) := by decide +kernel
theorem dX8_ends_96 : decode cX8_ends 96 = .ok (.getfield 43, 3) := by decide +kernel
theorem dX8_ends_99 : decode cX8_ends 99 = .ok (.iconst 1, 1) := by decide +kernel
theorem dX8_ends_100 : decode cX8_ends 100 = .ok (.isub, 1) := by decide +kernel
theorem dX8_ends_101 : decode cX8_ends 101 = .ok (.putfield 43, 3) := by decide +kernel
theorem dX8_ends_104 : decode cX8_ends 104 = .ok (.aload_n 0, 1) := by decide +kernel
theorem dX8_ends_105 : decode cX8_ends 105 = .ok (.dup, 1) := by decide +kernel
theorem dX8_ends_106 : decode cX8_ends 106 = .ok (.getfield 43, 3) := by decide +kernel
theorem dX8_ends_109 : decode cX8_ends 109 = .ok (.iconst 1, 1) := by decide +kernel
theorem dX8_ends_110 : decode cX8_ends 110 = .ok (.iadd, 1) := by decide +kernel
theorem dX8_ends_111 : decode cX8_ends 111 = .ok (.putfield 43, 3) := by decide +kernel
theorem dX8_ends_114 : decode cX8_ends 114 = .ok (.aload_n 0, 1) := by decide +kernel
theorem dX8_ends_115 : decode cX8_ends 115 = .ok (.bipush 10, 2) := by decide +kernel
theorem dX8_ends_117 : decode cX8_ends 117 = .ok (.aload_n 0, 1) := by decide +kernel
theorem dX8_ends_118 : decode cX8_ends 118 = .ok (.getfield 43, 3) := by decide +kernel
theorem dX8_ends_121 : decode cX8_ends 121 = .ok (.invokevirtual 39, 3) := by decide +kernel
theorem dX8_ends_124 : decode cX8_ends 124 = .ok (.aload_n 0, 1) := by decide +kernel
theorem dX8_ends_125 : decode cX8_ends 125 = .ok (.getfield 46, 3) := by decide +kernel
theorem dX8_ends_128 : decode cX8_ends 128 = .ok (.ireturn, 1) := by decide +kernel
theorem dX8_isFine_0 : decode cX8_isFine 0 = .ok (.aload_n 0, 1) := by decide +kernel
theorem dX8_isFine_1 : decode cX8_isFine 1 = .ok (.iload_n 1, 1) := by decide +kernel
theorem dX8_isFine_2 : decode cX8_isFine 2 = .ok (.ifCond .eq 7, 3) := by decide +kernel
theorem dX8_isFine_5 : decode cX8_isFine 5 = .ok (.iconst 0, 1) := by decide +kernel
theorem dX8_isFine_6 : decode cX8_isFine 6 = .ok (.goto 4, 3) := by decide +kernel
theorem dX8_isFine_9 : decode cX8_isFine 9 = .ok (.iconst 1, 1) := by decide +kernel
theorem dX8_isFine_10 : decode cX8_isFine 10 = .ok (.putfield 36, 3) := by decide +kernel
theorem dX8_isFine_13 : decode cX8_isFine 13 = .ok (.iload_n 1, 1) := by decide +kernel
theorem dX8_isFine_14 : decode cX8_isFine 14 = .ok (.ireturn, 1) := by decide +kernel
theorem dX8_c_0 : decode cX8_c 0 = .ok (.aload_n 0, 1) := by decide +kernel
theorem dX8_c_1 : decode cX8_c 1 = .ok (.getfield 9, 3) := by decide +kernel
theorem dX8_c_4 : decode cX8_c 4 = .ok (.bipush 7, 2) := by decide +kernel
theorem dX8_c_6 : decode cX8_c 6 = .ok (.iconst 5, 1) := by decide +kernel
theorem dX8_c_7 : decode cX8_c 7 = .ok (.iload_n 1, 1) := by decide +kernel
theorem dX8_c_8 : decode cX8_c 8 = .ok (.imul, 1) := by decide +kernel
theorem dX8_c_9 : decode cX8_c 9 = .ok (.iadd, 1) := by decide +kernel
theorem dX8_c_10 : decode cX8_c 10 = .ok (.iload_n 2, 1) := by decide +kernel
theorem dX8_c_11 : decode cX8_c 11 = .ok (.iadd, 1) := by decide +kernel
theorem dX8_c_12 : decode cX8_c 12 = .ok (.iaload, 1) := by decide +kernel
theorem dX8_c_13 : decode cX8_c 13 = .ok (.ireturn, 1) := by decide +kernel
theorem dX8_set_0 : decode cX8_set 0 = .ok (.aload_n 0, 1) := by decide +kernel
theorem dX8_set_1 : decode cX8_set 1 = .ok (.getfield 9, 3) := by decide +kernel
theorem dX8_set_4 : decode cX8_set 4 = .ok (.bipush 7, 2) := by decide +kernel
theorem dX8_set_6 : decode cX8_set 6 = .ok (.iconst 5, 1) := by decide +kernel
theorem dX8_set_7 : decode cX8_set 7 = .ok (.iload_n 1, 1) := by decide +kernel
theorem dX8_set_8 : decode cX8_set 8 = .ok (.imul, 1) := by decide +kernel
theorem dX8_set_9 : decode cX8_set 9 = .ok (.iadd, 1) := by decide +kernel
theorem dX8_set_10 : decode cX8_set 10 = .ok (.iload_n 2, 1) := by decide +kernel
theorem dX8_set_11 : decode cX8_set 11 = .ok (.iadd, 1) := by decide +kernel
theorem dX8_set_12 : decode cX8_set 12 = .ok (.iload_n 3, 1) := by decide +kernel
theorem dX8_set_13 : decode cX8_set 13 = .ok (.iastore, 1) := by decide +kernel
theorem dX8_set_14 : decode cX8_set 14 = .ok (.return_, 1) := by decide +kernel
theorem dX8_place_0 : decode cX8_place 0 = .ok (.iconst 0, 1) := by decide +kernel
theorem dX8_place_1 : decode cX8_place 1 = .ok (.istore_n 2, 1) := by decide +kernel
theorem dX8_place_2 : decode cX8_place 2 = .ok (.iload_n 2, 1) := by decide +kernel
theorem dX8_place_3 : decode cX8_place 3 = .ok (.aload_n 0, 1) := by decide +kernel
theorem dX8_place_4 : decode cX8_place 4 = .ok (.getfield 9, 3) := by decide +kernel
theorem dX8_place_7 : decode cX8_place 7 = .ok (.iconst 0, 1) := by decide +kernel
theorem dX8_place_8 : decode cX8_place 8 = .ok (.iaload, 1) := by decide +kernel
theorem dX8_place_9 : decode cX8_place 9 = .ok (.if_icmp .ge 21, 3) := by decide +kernel
theorem dX8_place_12 : decode cX8_place 12 = .ok (.aload_n 0, 1) := by decide +kernel
theorem dX8_place_13 : decode cX8_place 13 = .ok (.iload_n 2, 1) := by decide +kernel
theorem dX8_place_14 : decode cX8_place 14 = .ok (.iconst 0, 1) := by decide +kernel
theorem dX8_place_15 : decode cX8_place 15 = .ok (.invokevirtual 49, 3) := by decide +kernel
theorem dX8_place_18 : decode cX8_place 18 = .ok (.iload_n 1, 1) := by decide +kernel
theorem dX8_place_19 : decode cX8_place 19 = .ok (.if_icmp .ne 5, 3) := by decide +kernel
theorem dX8_place_22 : decode cX8_place 22 = .ok (.iload_n 2, 1) := by decide +kernel
theorem dX8_place_23 : decode cX8_place 23 = .ok (.ireturn, 1) := by decide +kernel
theorem dX8_place_24 : decode cX8_place 24 = .ok (.iinc 2 1, 3) := by decide +kernel
theorem dX8_place_27 : decode cX8_place 27 = .ok (.goto (-25), 3) := by decide +kernel
theorem dX8_place_30 : decode cX8_place 30 = .ok (.iconst (-1), 1) := by decide +kernel
theorem dX8_place_31 : decode cX8_place 31 = .ok (.ireturn, 1) := by decide +kernel
theorem dX8_isThere_0 : decode cX8_isThere 0 = .ok (.aload_n 0, 1) := by decide +kernel
theorem dX8_isThere_1 : decode cX8_isThere 1 = .ok (.iload_n 1, 1) := by decide +kernel
theorem dX8_isThere_2 : decode cX8_isThere 2 = .ok (.invokevirtual 53, 3) := by decide +kernel
theorem dX8_isThere_5 : decode cX8_isThere 5 = .ok (.ifCond .lt 7, 3) := by decide +kernel
theorem dX8_isThere_8 : decode cX8_isThere 8 = .ok (.iconst 1, 1) := by decide +kernel
theorem dX8_isThere_9 : decode cX8_isThere 9 = .ok (.goto 4, 3) := by decide +kernel
theorem dX8_isThere_12 : decode cX8_isThere 12 = .ok (.iconst 0, 1) := by decide +kernel
theorem dX8_isThere_13 : decode cX8_isThere 13 = .ok (.ireturn, 1) := by decide +kernel
theorem dX8_goes_0 : decode cX8_goes 0 = .ok (.aload_n 0, 1) := by decide +kernel
theorem dX8_goes_1 : decode cX8_goes 1 = .ok (.getfield 9, 3) := by decide +kernel
theorem dX8_goes_4 : decode cX8_goes 4 = .ok (.iconst 0, 1) := by decide +kernel
theorem dX8_goes_5 : decode cX8_goes 5 = .ok (.iaload, 1) := by decide +kernel
theorem dX8_goes_6 : decode cX8_goes 6 = .ok (.iconst 1, 1) := by decide +kernel
theorem dX8_goes_7 : decode cX8_goes 7 = .ok (.isub, 1) := by decide +kernel
theorem dX8_goes_8 : decode cX8_goes 8 = .ok (.istore_n 2, 1) := by decide +kernel
theorem dX8_goes_9 : decode cX8_goes 9 = .ok (.bipush 7, 2) := by decide +kernel
theorem dX8_goes_11 : decode cX8_goes 11 = .ok (.iconst 5, 1) := by decide +kernel
theorem dX8_goes_12 : decode cX8_goes 12 = .ok (.iload_n 1, 1) := by decide +kernel
theorem dX8_goes_13 : decode cX8_goes 13 = .ok (.imul, 1) := by decide +kernel
theorem dX8_goes_14 : decode cX8_goes 14 = .ok (.iadd, 1) := by decide +kernel
theorem dX8_goes_15 : decode cX8_goes 15 = .ok (.istore_n 3, 1) := by decide +kernel
theorem dX8_goes_16 : decode cX8_goes 16 = .ok (.iload_n 3, 1) := by decide +kernel
theorem dX8_goes_17 : decode cX8_goes 17 = .ok (.bipush 7, 2) := by decide +kernel
theorem dX8_goes_19 : decode cX8_goes 19 = .ok (.iconst 5, 1) := by decide +kernel
theorem dX8_goes_20 : decode cX8_goes 20 = .ok (.iload_n 2, 1) := by decide +kernel
theorem dX8_goes_21 : decode cX8_goes 21 = .ok (.imul, 1) := by decide +kernel
theorem dX8_goes_22 : decode cX8_goes 22 = .ok (.iadd, 1) := by decide +kernel
theorem dX8_goes_23 : decode cX8_goes 23 = .ok (.if_icmp .ge 23, 3) := by decide +kernel
theorem dX8_goes_26 : decode cX8_goes 26 = .ok (.aload_n 0, 1) := by decide +kernel
theorem dX8_goes_27 : decode cX8_goes 27 = .ok (.getfield 9, 3) := by decide +kernel
theorem dX8_goes_30 : decode cX8_goes 30 = .ok (.iload_n 3, 1) := by decide +kernel
theorem dX8_goes_31 : decode cX8_goes 31 = .ok (.aload_n 0, 1) := by decide +kernel
theorem dX8_goes_32 : decode cX8_goes 32 = .ok (.getfield 9, 3) := by decide +kernel
theorem dX8_goes_35 : decode cX8_goes 35 = .ok (.iload_n 3, 1) := by decide +kernel
theorem dX8_goes_36 : decode cX8_goes 36 = .ok (.iconst 5, 1) := by decide +kernel
theorem dX8_goes_37 : decode cX8_goes 37 = .ok (.iadd, 1) := by decide +kernel
theorem dX8_goes_38 : decode cX8_goes 38 = .ok (.iaload, 1) := by decide +kernel
theorem dX8_goes_39 : decode cX8_goes 39 = .ok (.iastore, 1) := by decide +kernel
theorem dX8_goes_40 : decode cX8_goes 40 = .ok (.iinc 3 1, 3) := by decide +kernel
theorem dX8_goes_43 : decode cX8_goes 43 = .ok (.goto (-27), 3) := by decide +kernel
theorem dX8_goes_46 : decode cX8_goes 46 = .ok (.iconst 0, 1) := by decide +kernel
theorem dX8_goes_47 : decode cX8_goes 47 = .ok (.istore_n 3, 1) := by decide +kernel
theorem dX8_goes_48 : decode cX8_goes 48 = .ok (.iload_n 3, 1) := by decide +kernel
theorem dX8_goes_49 : decode cX8_goes 49 = .ok (.iconst 5, 1) := by decide +kernel
theorem dX8_goes_50 : decode cX8_goes 50 = .ok (.if_icmp .ge 16, 3) := by decide +kernel
theorem dX8_goes_53 : decode cX8_goes 53 = .ok (.aload_n 0, 1) := by decide +kernel
theorem dX8_goes_54 : decode cX8_goes 54 = .ok (.iload_n 2, 1) := by decide +kernel
theorem dX8_goes_55 : decode cX8_goes 55 = .ok (.iload_n 3, 1) := by decide +kernel
theorem dX8_goes_56 : decode cX8_goes 56 = .ok (.iconst 0, 1) := by decide +kernel
theorem dX8_goes_57 : decode cX8_goes 57 = .ok (.invokevirtual 57, 3) := by decide +kernel
theorem dX8_goes_60 : decode cX8_goes 60 = .ok (.iinc 3 1, 3) := by decide +kernel
theorem dX8_goes_63 : decode cX8_goes 63 = .ok (.goto (-15), 3) := by decide +kernel
theorem dX8_goes_66 : decode cX8_goes 66 = .ok (.aload_n 0, 1) := by decide +kernel
theorem dX8_goes_67 : decode cX8_goes 67 = .ok (.getfield 9, 3) := by decide +kernel
theorem dX8_goes_70 : decode cX8_goes 70 = .ok (.iconst 0, 1) := by decide +kernel
theorem dX8_goes_71 : decode cX8_goes 71 = .ok (.iload_n 2, 1) := by decide +kernel
theorem dX8_goes_72 : decode cX8_goes 72 = .ok (.iastore, 1) := by decide +kernel
theorem dX8_goes_73 : decode cX8_goes 73 = .ok (.return_, 1) := by decide +kernel
theorem dX8_tailOf_0 : decode cX8_tailOf 0 = .ok (.iconst 1, 1) := by decide +kernel
theorem dX8_tailOf_1 : decode cX8_tailOf 1 = .ok (.iload_n 0, 1) := by decide +kernel
theorem dX8_tailOf_2 : decode cX8_tailOf 2 = .ok (.iconst 5, 1) := by decide +kernel
theorem dX8_tailOf_3 : decode cX8_tailOf 3 = .ok (.idiv, 1) := by decide +kernel
theorem dX8_tailOf_4 : decode cX8_tailOf 4 = .ok (.iadd, 1) := by decide +kernel
theorem dX8_tailOf_5 : decode cX8_tailOf 5 = .ok (.ireturn, 1) := by decide +kernel
theorem dX8_passes_0 : decode cX8_passes 0 = .ok (.aload_n 0, 1) := by decide +kernel
theorem dX8_passes_1 : decode cX8_passes 1 = .ok (.iload_n 1, 1) := by decide +kernel
theorem dX8_passes_2 : decode cX8_passes 2 = .ok (.iconst 2, 1) := by decide +kernel
theorem dX8_passes_3 : decode cX8_passes 3 = .ok (.invokevirtual 49, 3) := by decide +kernel
theorem dX8_passes_6 : decode cX8_passes 6 = .ok (.istore_n 2, 1) := by decide +kernel
theorem dX8_passes_7 : decode cX8_passes 7 = .ok (.aload_n 0, 1) := by decide +kernel
theorem dX8_passes_8 : decode cX8_passes 8 = .ok (.getfield 9, 3) := by decide +kernel
theorem dX8_passes_11 : decode cX8_passes 11 = .ok (.bipush 37, 2) := by decide +kernel
theorem dX8_passes_13 : decode cX8_passes 13 = .ok (.aload_n 0, 1) := by decide +kernel
theorem dX8_passes_14 : decode cX8_passes 14 = .ok (.getfield 9, 3) := by decide +kernel
theorem dX8_passes_17 : decode cX8_passes 17 = .ok (.iconst 2, 1) := by decide +kernel
theorem dX8_passes_18 : decode cX8_passes 18 = .ok (.iaload, 1) := by decide +kernel
theorem dX8_passes_19 : decode cX8_passes 19 = .ok (.bipush 12, 2) := by decide +kernel
theorem dX8_passes_21 : decode cX8_passes 21 = .ok (.irem, 1) := by decide +kernel
theorem dX8_passes_22 : decode cX8_passes 22 = .ok (.iadd, 1) := by decide +kernel
theorem dX8_passes_23 : decode cX8_passes 23 = .ok (.dup2, 1) := by decide +kernel
theorem dX8_passes_24 : decode cX8_passes 24 = .ok (.iaload, 1) := by decide +kernel
theorem dX8_passes_25 : decode cX8_passes 25 = .ok (.iload_n 2, 1) := by decide +kernel
theorem dX8_passes_26 : decode cX8_passes 26 = .ok (.iadd, 1) := by decide +kernel
theorem dX8_passes_27 : decode cX8_passes 27 = .ok (.iastore, 1) := by decide +kernel
theorem dX8_passes_28 : decode cX8_passes 28 = .ok (.aload_n 0, 1) := by decide +kernel
theorem dX8_passes_29 : decode cX8_passes 29 = .ok (.getfield 9, 3) := by decide +kernel
theorem dX8_passes_32 : decode cX8_passes 32 = .ok (.iconst 5, 1) := by decide +kernel
theorem dX8_passes_33 : decode cX8_passes 33 = .ok (.dup2, 1) := by decide +kernel
theorem dX8_passes_34 : decode cX8_passes 34 = .ok (.iaload, 1) := by decide +kernel
theorem dX8_passes_35 : decode cX8_passes 35 = .ok (.iconst 1, 1) := by decide +kernel
theorem dX8_passes_36 : decode cX8_passes 36 = .ok (.iadd, 1) := by decide +kernel
theorem dX8_passes_37 : decode cX8_passes 37 = .ok (.iastore, 1) := by decide +kernel
theorem dX8_passes_38 : decode cX8_passes 38 = .ok (.aload_n 0, 1) := by decide +kernel
theorem dX8_passes_39 : decode cX8_passes 39 = .ok (.iload_n 1, 1) := by decide +kernel
theorem dX8_passes_40 : decode cX8_passes 40 = .ok (.iconst 4, 1) := by decide +kernel
theorem dX8_passes_41 : decode cX8_passes 41 = .ok (.aload_n 0, 1) := by decide +kernel
theorem dX8_passes_42 : decode cX8_passes 42 = .ok (.iload_n 1, 1) := by decide +kernel
theorem dX8_passes_43 : decode cX8_passes 43 = .ok (.iconst 4, 1) := by decide +kernel
theorem dX8_passes_44 : decode cX8_passes 44 = .ok (.invokevirtual 49, 3) := by decide +kernel
theorem dX8_passes_47 : decode cX8_passes 47 = .ok (.iconst 1, 1) := by decide +kernel
theorem dX8_passes_48 : decode cX8_passes 48 = .ok (.iadd, 1) := by decide +kernel
theorem dX8_passes_49 : decode cX8_passes 49 = .ok (.invokevirtual 57, 3) := by decide +kernel
theorem dX8_passes_52 : decode cX8_passes 52 = .ok (.aload_n 0, 1) := by decide +kernel
theorem dX8_passes_53 : decode cX8_passes 53 = .ok (.iload_n 1, 1) := by decide +kernel
theorem dX8_passes_54 : decode cX8_passes 54 = .ok (.iconst 2, 1) := by decide +kernel
theorem dX8_passes_55 : decode cX8_passes 55 = .ok (.iload_n 2, 1) := by decide +kernel
theorem dX8_passes_56 : decode cX8_passes 56 = .ok (.iconst 1, 1) := by decide +kernel
theorem dX8_passes_57 : decode cX8_passes 57 = .ok (.isub, 1) := by decide +kernel
theorem dX8_passes_58 : decode cX8_passes 58 = .ok (.invokevirtual 57, 3) := by decide +kernel
theorem dX8_passes_61 : decode cX8_passes 61 = .ok (.aload_n 0, 1) := by decide +kernel
theorem dX8_passes_62 : decode cX8_passes 62 = .ok (.iload_n 1, 1) := by decide +kernel
theorem dX8_passes_63 : decode cX8_passes 63 = .ok (.iconst 3, 1) := by decide +kernel
theorem dX8_passes_64 : decode cX8_passes 64 = .ok (.aload_n 0, 1) := by decide +kernel
theorem dX8_passes_65 : decode cX8_passes 65 = .ok (.getfield 9, 3) := by decide +kernel
theorem dX8_passes_68 : decode cX8_passes 68 = .ok (.iconst 2, 1) := by decide +kernel
theorem dX8_passes_69 : decode cX8_passes 69 = .ok (.iaload, 1) := by decide +kernel
theorem dX8_passes_70 : decode cX8_passes 70 = .ok (.aload_n 0, 1) := by decide +kernel
theorem dX8_passes_71 : decode cX8_passes 71 = .ok (.iload_n 1, 1) := by decide +kernel
theorem dX8_passes_72 : decode cX8_passes 72 = .ok (.iconst 1, 1) := by decide +kernel
theorem dX8_passes_73 : decode cX8_passes 73 = .ok (.invokevirtual 49, 3) := by decide +kernel
theorem dX8_passes_76 : decode cX8_passes 76 = .ok (.iadd, 1) := by decide +kernel
theorem dX8_passes_77 : decode cX8_passes 77 = .ok (.invokevirtual 57, 3) := by decide +kernel
theorem dX8_passes_80 : decode cX8_passes 80 = .ok (.iload_n 2, 1) := by decide +kernel
theorem dX8_passes_81 : decode cX8_passes 81 = .ok (.iconst 1, 1) := by decide +kernel
theorem dX8_passes_82 : decode cX8_passes 82 = .ok (.if_icmp .ne 7, 3) := by decide +kernel
theorem dX8_passes_85 : decode cX8_passes 85 = .ok (.iconst 1, 1) := by decide +kernel
theorem dX8_passes_86 : decode cX8_passes 86 = .ok (.goto 4, 3) := by decide +kernel
theorem dX8_passes_89 : decode cX8_passes 89 = .ok (.iconst 0, 1) := by decide +kernel
theorem dX8_passes_90 : decode cX8_passes 90 = .ok (.ireturn, 1) := by decide +kernel
theorem dX8_goesBy_0 : decode cX8_goesBy 0 = .ok (.iconst 0, 1) := by decide +kernel
theorem dX8_goesBy_1 : decode cX8_goesBy 1 = .ok (.istore_n 1, 1) := by decide +kernel
theorem dX8_goesBy_2 : decode cX8_goesBy 2 = .ok (.iconst 0, 1) := by decide +kernel
theorem dX8_goesBy_3 : decode cX8_goesBy 3 = .ok (.istore_n 2, 1) := by decide +kernel
theorem dX8_goesBy_4 : decode cX8_goesBy 4 = .ok (.aload_n 0, 1) := by decide +kernel
theorem dX8_goesBy_5 : decode cX8_goesBy 5 = .ok (.getfield 9, 3) := by decide +kernel
theorem dX8_goesBy_8 : decode cX8_goesBy 8 = .ok (.iconst 2, 1) := by decide +kernel
theorem dX8_goesBy_9 : decode cX8_goesBy 9 = .ok (.dup2, 1) := by decide +kernel
theorem dX8_goesBy_10 : decode cX8_goesBy 10 = .ok (.iaload, 1) := by decide +kernel
theorem dX8_goesBy_11 : decode cX8_goesBy 11 = .ok (.iconst 1, 1) := by decide +kernel
theorem dX8_goesBy_12 : decode cX8_goesBy 12 = .ok (.iadd, 1) := by decide +kernel
theorem dX8_goesBy_13 : decode cX8_goesBy 13 = .ok (.iastore, 1) := by decide +kernel
theorem dX8_goesBy_14 : decode cX8_goesBy 14 = .ok (.iload_n 2, 1) := by decide +kernel
theorem dX8_goesBy_15 : decode cX8_goesBy 15 = .ok (.aload_n 0, 1) := by decide +kernel
theorem dX8_goesBy_16 : decode cX8_goesBy 16 = .ok (.getfield 9, 3) := by decide +kernel
theorem dX8_goesBy_19 : decode cX8_goesBy 19 = .ok (.iconst 0, 1) := by decide +kernel
theorem dX8_goesBy_20 : decode cX8_goesBy 20 = .ok (.iaload, 1) := by decide +kernel
theorem dX8_goesBy_21 : decode cX8_goesBy 21 = .ok (.if_icmp .ge 73, 3) := by decide +kernel
theorem dX8_goesBy_24 : decode cX8_goesBy 24 = .ok (.aload_n 0, 1) := by decide +kernel
theorem dX8_goesBy_25 : decode cX8_goesBy 25 = .ok (.iload_n 2, 1) := by decide +kernel
theorem dX8_goesBy_26 : decode cX8_goesBy 26 = .ok (.iconst 3, 1) := by decide +kernel
theorem dX8_goesBy_27 : decode cX8_goesBy 27 = .ok (.invokevirtual 49, 3) := by decide +kernel
theorem dX8_goesBy_30 : decode cX8_goesBy 30 = .ok (.aload_n 0, 1) := by decide +kernel
theorem dX8_goesBy_31 : decode cX8_goesBy 31 = .ok (.getfield 9, 3) := by decide +kernel
theorem dX8_goesBy_34 : decode cX8_goesBy 34 = .ok (.iconst 2, 1) := by decide +kernel
theorem dX8_goesBy_35 : decode cX8_goesBy 35 = .ok (.iaload, 1) := by decide +kernel
theorem dX8_goesBy_36 : decode cX8_goesBy 36 = .ok (.if_icmp .ne 7, 3) := by decide +kernel
theorem dX8_goesBy_39 : decode cX8_goesBy 39 = .ok (.iconst 1, 1) := by decide +kernel
theorem dX8_goesBy_40 : decode cX8_goesBy 40 = .ok (.goto 4, 3) := by decide +kernel
theorem dX8_goesBy_43 : decode cX8_goesBy 43 = .ok (.iconst 0, 1) := by decide +kernel
theorem dX8_goesBy_44 : decode cX8_goesBy 44 = .ok (.istore_n 3, 1) := by decide +kernel
theorem dX8_goesBy_45 : decode cX8_goesBy 45 = .ok (.iload_n 1, 1) := by decide +kernel
theorem dX8_goesBy_46 : decode cX8_goesBy 46 = .ok (.iload_n 3, 1) := by decide +kernel
theorem dX8_goesBy_47 : decode cX8_goesBy 47 = .ok (.ifCond .eq 7, 3) := by decide +kernel
theorem dX8_goesBy_50 : decode cX8_goesBy 50 = .ok (.iconst 1, 1) := by decide +kernel
theorem dX8_goesBy_51 : decode cX8_goesBy 51 = .ok (.goto 4, 3) := by decide +kernel
theorem dX8_goesBy_54 : decode cX8_goesBy 54 = .ok (.iconst 0, 1) := by decide +kernel
theorem dX8_goesBy_55 : decode cX8_goesBy 55 = .ok (.iadd, 1) := by decide +kernel
theorem dX8_goesBy_56 : decode cX8_goesBy 56 = .ok (.istore_n 1, 1) := by decide +kernel
theorem dX8_goesBy_57 : decode cX8_goesBy 57 = .ok (.iload_n 3, 1) := by decide +kernel
theorem dX8_goesBy_58 : decode cX8_goesBy 58 = .ok (.ifCond .eq 30, 3) := by decide +kernel
theorem dX8_goesBy_61 : decode cX8_goesBy 61 = .ok (.aload_n 0, 1) := by decide +kernel
theorem dX8_goesBy_62 : decode cX8_goesBy 62 = .ok (.iload_n 2, 1) := by decide +kernel
theorem dX8_goesBy_63 : decode cX8_goesBy 63 = .ok (.invokevirtual 61, 3) := by decide +kernel
theorem dX8_goesBy_66 : decode cX8_goesBy 66 = .ok (.ifCond .eq 22, 3) := by decide +kernel
theorem dX8_goesBy_69 : decode cX8_goesBy 69 = .ok (.aload_n 0, 1) := by decide +kernel
theorem dX8_goesBy_70 : decode cX8_goesBy 70 = .ok (.iload_n 2, 1) := by decide +kernel
theorem dX8_goesBy_71 : decode cX8_goesBy 71 = .ok (.invokevirtual 65, 3) := by decide +kernel
theorem dX8_goesBy_74 : decode cX8_goesBy 74 = .ok (.aload_n 0, 1) := by decide +kernel
theorem dX8_goesBy_75 : decode cX8_goesBy 75 = .ok (.getfield 9, 3) := by decide +kernel
theorem dX8_goesBy_78 : decode cX8_goesBy 78 = .ok (.bipush 6, 2) := by decide +kernel
theorem dX8_goesBy_80 : decode cX8_goesBy 80 = .ok (.dup2, 1) := by decide +kernel
theorem dX8_goesBy_81 : decode cX8_goesBy 81 = .ok (.iaload, 1) := by decide +kernel
theorem dX8_goesBy_82 : decode cX8_goesBy 82 = .ok (.iconst 1, 1) := by decide +kernel
theorem dX8_goesBy_83 : decode cX8_goesBy 83 = .ok (.iadd, 1) := by decide +kernel
theorem dX8_goesBy_84 : decode cX8_goesBy 84 = .ok (.iastore, 1) := by decide +kernel
theorem dX8_goesBy_85 : decode cX8_goesBy 85 = .ok (.goto 6, 3) := by decide +kernel
theorem dX8_goesBy_88 : decode cX8_goesBy 88 = .ok (.iinc 2 1, 3) := by decide +kernel
theorem dX8_goesBy_91 : decode cX8_goesBy 91 = .ok (.goto (-77), 3) := by decide +kernel
theorem dX8_goesBy_94 : decode cX8_goesBy 94 = .ok (.iload_n 1, 1) := by decide +kernel
theorem dX8_goesBy_95 : decode cX8_goesBy 95 = .ok (.ireturn, 1) := by decide +kernel
theorem dX8_comes_0 : decode cX8_comes 0 = .ok (.iload_n 1, 1) := by decide +kernel
theorem dX8_comes_1 : decode cX8_comes 1 = .ok (.iconst 2, 1) := by decide +kernel
theorem dX8_comes_2 : decode cX8_comes 2 = .ok (.bipush 60, 2) := by decide +kernel
theorem dX8_comes_4 : decode cX8_comes 4 = .ok (.invokestatic 69, 3) := by decide +kernel
theorem dX8_comes_7 : decode cX8_comes 7 = .ok (.ifCond .eq 23, 3) := by decide +kernel
theorem dX8_comes_10 : decode cX8_comes 10 = .ok (.iload_n 2, 1) := by decide +kernel
theorem dX8_comes_11 : decode cX8_comes 11 = .ok (.iconst 1, 1) := by decide +kernel
theorem dX8_comes_12 : decode cX8_comes 12 = .ok (.bipush 60, 2) := by decide +kernel
theorem dX8_comes_14 : decode cX8_comes 14 = .ok (.invokestatic 69, 3) := by decide +kernel
theorem dX8_comes_17 : decode cX8_comes 17 = .ok (.ifCond .eq 13, 3) := by decide +kernel
theorem dX8_comes_20 : decode cX8_comes 20 = .ok (.iload_n 3, 1) := by decide +kernel
theorem dX8_comes_21 : decode cX8_comes 21 = .ok (.iconst 1, 1) := by decide +kernel
theorem dX8_comes_22 : decode cX8_comes 22 = .ok (.bipush 20, 2) := by decide +kernel
theorem dX8_comes_24 : decode cX8_comes 24 = .ok (.invokestatic 69, 3) := by decide +kernel
theorem dX8_comes_27 : decode cX8_comes 27 = .ok (.ifCond .ne 5, 3) := by decide +kernel
theorem dX8_comes_30 : decode cX8_comes 30 = .ok (.iconst 2, 1) := by decide +kernel
theorem dX8_comes_31 : decode cX8_comes 31 = .ok (.ireturn, 1) := by decide +kernel
theorem dX8_comes_32 : decode cX8_comes 32 = .ok (.aload_n 0, 1) := by decide +kernel
theorem dX8_comes_33 : decode cX8_comes 33 = .ok (.getfield 9, 3) := by decide +kernel
theorem dX8_comes_36 : decode cX8_comes 36 = .ok (.iconst 0, 1) := by decide +kernel
theorem dX8_comes_37 : decode cX8_comes 37 = .ok (.iaload, 1) := by decide +kernel
theorem dX8_comes_38 : decode cX8_comes 38 = .ok (.istore 4, 2) := by decide +kernel
theorem dX8_comes_40 : decode cX8_comes 40 = .ok (.iload 4, 2) := by decide +kernel
theorem dX8_comes_42 : decode cX8_comes 42 = .ok (.bipush 6, 2) := by decide +kernel
theorem dX8_comes_44 : decode cX8_comes 44 = .ok (.if_icmp .ne 5, 3) := by decide +kernel
theorem dX8_comes_47 : decode cX8_comes 47 = .ok (.iconst 3, 1) := by decide +kernel
theorem dX8_comes_48 : decode cX8_comes 48 = .ok (.ireturn, 1) := by decide +kernel
theorem dX8_comes_49 : decode cX8_comes 49 = .ok (.aload_n 0, 1) := by decide +kernel
theorem dX8_comes_50 : decode cX8_comes 50 = .ok (.getfield 9, 3) := by decide +kernel
theorem dX8_comes_53 : decode cX8_comes 53 = .ok (.iconst 0, 1) := by decide +kernel
theorem dX8_comes_54 : decode cX8_comes 54 = .ok (.dup2, 1) := by decide +kernel
theorem dX8_comes_55 : decode cX8_comes 55 = .ok (.iaload, 1) := by decide +kernel
theorem dX8_comes_56 : decode cX8_comes 56 = .ok (.iconst 1, 1) := by decide +kernel
theorem dX8_comes_57 : decode cX8_comes 57 = .ok (.iadd, 1) := by decide +kernel
theorem dX8_comes_58 : decode cX8_comes 58 = .ok (.iastore, 1) := by decide +kernel
theorem dX8_comes_59 : decode cX8_comes 59 = .ok (.aload_n 0, 1) := by decide +kernel
theorem dX8_comes_60 : decode cX8_comes 60 = .ok (.iload 4, 2) := by decide +kernel
theorem dX8_comes_62 : decode cX8_comes 62 = .ok (.iconst 0, 1) := by decide +kernel
theorem dX8_comes_63 : decode cX8_comes 63 = .ok (.aload_n 0, 1) := by decide +kernel
theorem dX8_comes_64 : decode cX8_comes 64 = .ok (.getfield 9, 3) := by decide +kernel
theorem dX8_comes_67 : decode cX8_comes 67 = .ok (.iconst 1, 1) := by decide +kernel
theorem dX8_comes_68 : decode cX8_comes 68 = .ok (.iaload, 1) := by decide +kernel
theorem dX8_comes_69 : decode cX8_comes 69 = .ok (.invokevirtual 57, 3) := by decide +kernel
theorem dX8_comes_72 : decode cX8_comes 72 = .ok (.aload_n 0, 1) := by decide +kernel
theorem dX8_comes_73 : decode cX8_comes 73 = .ok (.iload 4, 2) := by decide +kernel
theorem dX8_comes_75 : decode cX8_comes 75 = .ok (.iconst 1, 1) := by decide +kernel
theorem dX8_comes_76 : decode cX8_comes 76 = .ok (.iload_n 1, 1) := by decide +kernel
theorem dX8_comes_77 : decode cX8_comes 77 = .ok (.invokevirtual 57, 3) := by decide +kernel
theorem dX8_comes_80 : decode cX8_comes 80 = .ok (.aload_n 0, 1) := by decide +kernel
theorem dX8_comes_81 : decode cX8_comes 81 = .ok (.iload 4, 2) := by decide +kernel
theorem dX8_comes_83 : decode cX8_comes 83 = .ok (.iconst 2, 1) := by decide +kernel
theorem dX8_comes_84 : decode cX8_comes 84 = .ok (.iload_n 3, 1) := by decide +kernel
theorem dX8_comes_85 : decode cX8_comes 85 = .ok (.invokevirtual 57, 3) := by decide +kernel
theorem dX8_comes_88 : decode cX8_comes 88 = .ok (.aload_n 0, 1) := by decide +kernel
theorem dX8_comes_89 : decode cX8_comes 89 = .ok (.iload 4, 2) := by decide +kernel
theorem dX8_comes_91 : decode cX8_comes 91 = .ok (.iconst 3, 1) := by decide +kernel
theorem dX8_comes_92 : decode cX8_comes 92 = .ok (.aload_n 0, 1) := by decide +kernel
theorem dX8_comes_93 : decode cX8_comes 93 = .ok (.getfield 9, 3) := by decide +kernel
theorem dX8_comes_96 : decode cX8_comes 96 = .ok (.iconst 2, 1) := by decide +kernel
theorem dX8_comes_97 : decode cX8_comes 97 = .ok (.iaload, 1) := by decide +kernel
theorem dX8_comes_98 : decode cX8_comes 98 = .ok (.iload_n 2, 1) := by decide +kernel
theorem dX8_comes_99 : decode cX8_comes 99 = .ok (.iadd, 1) := by decide +kernel
theorem dX8_comes_100 : decode cX8_comes 100 = .ok (.invokevirtual 57, 3) := by decide +kernel
theorem dX8_comes_103 : decode cX8_comes 103 = .ok (.aload_n 0, 1) := by decide +kernel
theorem dX8_comes_104 : decode cX8_comes 104 = .ok (.iload 4, 2) := by decide +kernel
theorem dX8_comes_106 : decode cX8_comes 106 = .ok (.iconst 4, 1) := by decide +kernel
theorem dX8_comes_107 : decode cX8_comes 107 = .ok (.iconst 0, 1) := by decide +kernel
theorem dX8_comes_108 : decode cX8_comes 108 = .ok (.invokevirtual 57, 3) := by decide +kernel
theorem dX8_comes_111 : decode cX8_comes 111 = .ok (.aload_n 0, 1) := by decide +kernel
theorem dX8_comes_112 : decode cX8_comes 112 = .ok (.aload_n 0, 1) := by decide +kernel
theorem dX8_comes_113 : decode cX8_comes 113 = .ok (.getfield 9, 3) := by decide +kernel
theorem dX8_comes_116 : decode cX8_comes 116 = .ok (.iconst 1, 1) := by decide +kernel
theorem dX8_comes_117 : decode cX8_comes 117 = .ok (.iaload, 1) := by decide +kernel
theorem dX8_comes_118 : decode cX8_comes 118 = .ok (.putfield 46, 3) := by decide +kernel
theorem dX8_comes_121 : decode cX8_comes 121 = .ok (.aload_n 0, 1) := by decide +kernel
theorem dX8_comes_122 : decode cX8_comes 122 = .ok (.getfield 9, 3) := by decide +kernel
theorem dX8_comes_125 : decode cX8_comes 125 = .ok (.iconst 1, 1) := by decide +kernel
theorem dX8_comes_126 : decode cX8_comes 126 = .ok (.dup2, 1) := by decide +kernel
theorem dX8_comes_127 : decode cX8_comes 127 = .ok (.iaload, 1) := by decide +kernel
theorem dX8_comes_128 : decode cX8_comes 128 = .ok (.iconst 1, 1) := by decide +kernel
theorem dX8_comes_129 : decode cX8_comes 129 = .ok (.iadd, 1) := by decide +kernel
theorem dX8_comes_130 : decode cX8_comes 130 = .ok (.iastore, 1) := by decide +kernel
theorem dX8_comes_131 : decode cX8_comes 131 = .ok (.iconst 0, 1) := by decide +kernel
theorem dX8_comes_132 : decode cX8_comes 132 = .ok (.ireturn, 1) := by decide +kernel
theorem dX8_addComet_0 : decode cX8_addComet 0 = .ok (.aload_n 0, 1) := by decide +kernel
theorem dX8_addComet_1 : decode cX8_addComet 1 = .ok (.invokevirtual 73, 3) := by decide +kernel
theorem dX8_addComet_4 : decode cX8_addComet 4 = .ok (.aload_n 0, 1) := by decide +kernel
theorem dX8_addComet_5 : decode cX8_addComet 5 = .ok (.aload_n 0, 1) := by decide +kernel
theorem dX8_addComet_6 : decode cX8_addComet 6 = .ok (.iload_n 1, 1) := by decide +kernel
theorem dX8_addComet_7 : decode cX8_addComet 7 = .ok (.iload_n 2, 1) := by decide +kernel
theorem dX8_addComet_8 : decode cX8_addComet 8 = .ok (.iload_n 3, 1) := by decide +kernel
theorem dX8_addComet_9 : decode cX8_addComet 9 = .ok (.invokevirtual 76, 3) := by decide +kernel
theorem dX8_addComet_12 : decode cX8_addComet 12 = .ok (.iconst 0, 1) := by decide +kernel
theorem dX8_addComet_13 : decode cX8_addComet 13 = .ok (.iconst 1, 1) := by decide +kernel
theorem dX8_addComet_14 : decode cX8_addComet 14 = .ok (.iconst 2, 1) := by decide +kernel
theorem dX8_addComet_15 : decode cX8_addComet 15 = .ok (.iconst 0, 1) := by decide +kernel
theorem dX8_addComet_16 : decode cX8_addComet 16 = .ok (.invokevirtual 80, 3) := by decide +kernel
theorem dX8_addComet_19 : decode cX8_addComet 19 = .ok (.ireturn, 1) := by decide +kernel
theorem dX8_drops_0 : decode cX8_drops 0 = .ok (.aload_n 0, 1) := by decide +kernel
theorem dX8_drops_1 : decode cX8_drops 1 = .ok (.iload_n 1, 1) := by decide +kernel
theorem dX8_drops_2 : decode cX8_drops 2 = .ok (.invokevirtual 84, 3) := by decide +kernel
theorem dX8_drops_5 : decode cX8_drops 5 = .ok (.ifCond .ne 5, 3) := by decide +kernel
theorem dX8_drops_8 : decode cX8_drops 8 = .ok (.iconst 1, 1) := by decide +kernel
theorem dX8_drops_9 : decode cX8_drops 9 = .ok (.ireturn, 1) := by decide +kernel
theorem dX8_drops_10 : decode cX8_drops 10 = .ok (.aload_n 0, 1) := by decide +kernel
theorem dX8_drops_11 : decode cX8_drops 11 = .ok (.getfield 9, 3) := by decide +kernel
theorem dX8_drops_14 : decode cX8_drops 14 = .ok (.iconst 3, 1) := by decide +kernel
theorem dX8_drops_15 : decode cX8_drops 15 = .ok (.dup2, 1) := by decide +kernel
theorem dX8_drops_16 : decode cX8_drops 16 = .ok (.iaload, 1) := by decide +kernel
theorem dX8_drops_17 : decode cX8_drops 17 = .ok (.aload_n 0, 1) := by decide +kernel
theorem dX8_drops_18 : decode cX8_drops 18 = .ok (.aload_n 0, 1) := by decide +kernel
theorem dX8_drops_19 : decode cX8_drops 19 = .ok (.iload_n 1, 1) := by decide +kernel
theorem dX8_drops_20 : decode cX8_drops 20 = .ok (.invokevirtual 53, 3) := by decide +kernel
theorem dX8_drops_23 : decode cX8_drops 23 = .ok (.iconst 2, 1) := by decide +kernel
theorem dX8_drops_24 : decode cX8_drops 24 = .ok (.invokevirtual 49, 3) := by decide +kernel
theorem dX8_drops_27 : decode cX8_drops 27 = .ok (.iadd, 1) := by decide +kernel
theorem dX8_drops_28 : decode cX8_drops 28 = .ok (.iastore, 1) := by decide +kernel
theorem dX8_drops_29 : decode cX8_drops 29 = .ok (.aload_n 0, 1) := by decide +kernel
theorem dX8_drops_30 : decode cX8_drops 30 = .ok (.aload_n 0, 1) := by decide +kernel
theorem dX8_drops_31 : decode cX8_drops 31 = .ok (.iload_n 1, 1) := by decide +kernel
theorem dX8_drops_32 : decode cX8_drops 32 = .ok (.invokevirtual 53, 3) := by decide +kernel
theorem dX8_drops_35 : decode cX8_drops 35 = .ok (.invokevirtual 65, 3) := by decide +kernel
theorem dX8_drops_38 : decode cX8_drops 38 = .ok (.aload_n 0, 1) := by decide +kernel
theorem dX8_drops_39 : decode cX8_drops 39 = .ok (.aload_n 0, 1) := by decide +kernel
theorem dX8_drops_40 : decode cX8_drops 40 = .ok (.getfield 9, 3) := by decide +kernel
theorem dX8_drops_43 : decode cX8_drops 43 = .ok (.iconst 3, 1) := by decide +kernel
theorem dX8_drops_44 : decode cX8_drops 44 = .ok (.iaload, 1) := by decide +kernel
theorem dX8_drops_45 : decode cX8_drops 45 = .ok (.putfield 46, 3) := by decide +kernel
theorem dX8_drops_48 : decode cX8_drops 48 = .ok (.iconst 0, 1) := by decide +kernel
theorem dX8_drops_49 : decode cX8_drops 49 = .ok (.ireturn, 1) := by decide +kernel
theorem dX8_remove_0 : decode cX8_remove 0 = .ok (.aload_n 0, 1) := by decide +kernel
theorem dX8_remove_1 : decode cX8_remove 1 = .ok (.invokevirtual 73, 3) := by decide +kernel
theorem dX8_remove_4 : decode cX8_remove 4 = .ok (.aload_n 0, 1) := by decide +kernel
theorem dX8_remove_5 : decode cX8_remove 5 = .ok (.aload_n 0, 1) := by decide +kernel
theorem dX8_remove_6 : decode cX8_remove 6 = .ok (.iload_n 1, 1) := by decide +kernel
theorem dX8_remove_7 : decode cX8_remove 7 = .ok (.invokevirtual 87, 3) := by decide +kernel
theorem dX8_remove_10 : decode cX8_remove 10 = .ok (.iconst 1, 1) := by decide +kernel
theorem dX8_remove_11 : decode cX8_remove 11 = .ok (.iconst 0, 1) := by decide +kernel
theorem dX8_remove_12 : decode cX8_remove 12 = .ok (.iconst 0, 1) := by decide +kernel
theorem dX8_remove_13 : decode cX8_remove 13 = .ok (.iconst 0, 1) := by decide +kernel
theorem dX8_remove_14 : decode cX8_remove 14 = .ok (.invokevirtual 80, 3) := by decide +kernel
theorem dX8_remove_17 : decode cX8_remove 17 = .ok (.ireturn, 1) := by decide +kernel
theorem dX8_turns_0 : decode cX8_turns 0 = .ok (.aload_n 0, 1) := by decide +kernel
theorem dX8_turns_1 : decode cX8_turns 1 = .ok (.iload_n 1, 1) := by decide +kernel
theorem dX8_turns_2 : decode cX8_turns 2 = .ok (.invokevirtual 84, 3) := by decide +kernel
theorem dX8_turns_5 : decode cX8_turns 5 = .ok (.ifCond .ne 5, 3) := by decide +kernel
theorem dX8_turns_8 : decode cX8_turns 8 = .ok (.iconst 1, 1) := by decide +kernel
theorem dX8_turns_9 : decode cX8_turns 9 = .ok (.ireturn, 1) := by decide +kernel
theorem dX8_turns_10 : decode cX8_turns 10 = .ok (.iload_n 2, 1) := by decide +kernel
theorem dX8_turns_11 : decode cX8_turns 11 = .ok (.iconst 2, 1) := by decide +kernel
theorem dX8_turns_12 : decode cX8_turns 12 = .ok (.bipush 60, 2) := by decide +kernel
theorem dX8_turns_14 : decode cX8_turns 14 = .ok (.invokestatic 69, 3) := by decide +kernel
theorem dX8_turns_17 : decode cX8_turns 17 = .ok (.ifCond .ne 5, 3) := by decide +kernel
theorem dX8_turns_20 : decode cX8_turns 20 = .ok (.iconst 2, 1) := by decide +kernel
theorem dX8_turns_21 : decode cX8_turns 21 = .ok (.ireturn, 1) := by decide +kernel
theorem dX8_turns_22 : decode cX8_turns 22 = .ok (.aload_n 0, 1) := by decide +kernel
theorem dX8_turns_23 : decode cX8_turns 23 = .ok (.aload_n 0, 1) := by decide +kernel
theorem dX8_turns_24 : decode cX8_turns 24 = .ok (.aload_n 0, 1) := by decide +kernel
theorem dX8_turns_25 : decode cX8_turns 25 = .ok (.iload_n 1, 1) := by decide +kernel
theorem dX8_turns_26 : decode cX8_turns 26 = .ok (.invokevirtual 53, 3) := by decide +kernel
theorem dX8_turns_29 : decode cX8_turns 29 = .ok (.iconst 1, 1) := by decide +kernel
theorem dX8_turns_30 : decode cX8_turns 30 = .ok (.invokevirtual 49, 3) := by decide +kernel
theorem dX8_turns_33 : decode cX8_turns 33 = .ok (.putfield 46, 3) := by decide +kernel
theorem dX8_turns_36 : decode cX8_turns 36 = .ok (.aload_n 0, 1) := by decide +kernel
theorem dX8_turns_37 : decode cX8_turns 37 = .ok (.aload_n 0, 1) := by decide +kernel
theorem dX8_turns_38 : decode cX8_turns 38 = .ok (.iload_n 1, 1) := by decide +kernel
theorem dX8_turns_39 : decode cX8_turns 39 = .ok (.invokevirtual 53, 3) := by decide +kernel
theorem dX8_turns_42 : decode cX8_turns 42 = .ok (.iconst 1, 1) := by decide +kernel
theorem dX8_turns_43 : decode cX8_turns 43 = .ok (.iload_n 2, 1) := by decide +kernel
theorem dX8_turns_44 : decode cX8_turns 44 = .ok (.invokevirtual 57, 3) := by decide +kernel
theorem dX8_turns_47 : decode cX8_turns 47 = .ok (.iconst 0, 1) := by decide +kernel
theorem dX8_turns_48 : decode cX8_turns 48 = .ok (.ireturn, 1) := by decide +kernel
theorem dX8_setPeriod_0 : decode cX8_setPeriod 0 = .ok (.aload_n 0, 1) := by decide +kernel
theorem dX8_setPeriod_1 : decode cX8_setPeriod 1 = .ok (.invokevirtual 73, 3) := by decide +kernel
theorem dX8_setPeriod_4 : decode cX8_setPeriod 4 = .ok (.aload_n 0, 1) := by decide +kernel
theorem dX8_setPeriod_5 : decode cX8_setPeriod 5 = .ok (.aload_n 0, 1) := by decide +kernel
theorem dX8_setPeriod_6 : decode cX8_setPeriod 6 = .ok (.iload_n 1, 1) := by decide +kernel
theorem dX8_setPeriod_7 : decode cX8_setPeriod 7 = .ok (.iload_n 2, 1) := by decide +kernel
theorem dX8_setPeriod_8 : decode cX8_setPeriod 8 = .ok (.invokevirtual 90, 3) := by decide +kernel
theorem dX8_setPeriod_11 : decode cX8_setPeriod 11 = .ok (.iconst 1, 1) := by decide +kernel
theorem dX8_setPeriod_12 : decode cX8_setPeriod 12 = .ok (.iconst 2, 1) := by decide +kernel
theorem dX8_setPeriod_13 : decode cX8_setPeriod 13 = .ok (.iconst 0, 1) := by decide +kernel
theorem dX8_setPeriod_14 : decode cX8_setPeriod 14 = .ok (.iconst 0, 1) := by decide +kernel
theorem dX8_setPeriod_15 : decode cX8_setPeriod 15 = .ok (.invokevirtual 80, 3) := by decide +kernel
theorem dX8_setPeriod_18 : decode cX8_setPeriod 18 = .ok (.ireturn, 1) := by decide +kernel
theorem dX8_shines_0 : decode cX8_shines 0 = .ok (.aload_n 0, 1) := by decide +kernel
theorem dX8_shines_1 : decode cX8_shines 1 = .ok (.iload_n 1, 1) := by decide +kernel
theorem dX8_shines_2 : decode cX8_shines 2 = .ok (.invokevirtual 84, 3) := by decide +kernel
theorem dX8_shines_5 : decode cX8_shines 5 = .ok (.ifCond .ne 5, 3) := by decide +kernel
theorem dX8_shines_8 : decode cX8_shines 8 = .ok (.iconst 1, 1) := by decide +kernel
theorem dX8_shines_9 : decode cX8_shines 9 = .ok (.ireturn, 1) := by decide +kernel
theorem dX8_shines_10 : decode cX8_shines 10 = .ok (.iload_n 2, 1) := by decide +kernel
theorem dX8_shines_11 : decode cX8_shines 11 = .ok (.iconst 1, 1) := by decide +kernel
theorem dX8_shines_12 : decode cX8_shines 12 = .ok (.bipush 19, 2) := by decide +kernel
theorem dX8_shines_14 : decode cX8_shines 14 = .ok (.invokestatic 69, 3) := by decide +kernel
theorem dX8_shines_17 : decode cX8_shines 17 = .ok (.ifCond .ne 5, 3) := by decide +kernel
theorem dX8_shines_20 : decode cX8_shines 20 = .ok (.iconst 2, 1) := by decide +kernel
theorem dX8_shines_21 : decode cX8_shines 21 = .ok (.ireturn, 1) := by decide +kernel
theorem dX8_shines_22 : decode cX8_shines 22 = .ok (.aload_n 0, 1) := by decide +kernel
theorem dX8_shines_23 : decode cX8_shines 23 = .ok (.aload_n 0, 1) := by decide +kernel
theorem dX8_shines_24 : decode cX8_shines 24 = .ok (.iload_n 1, 1) := by decide +kernel
theorem dX8_shines_25 : decode cX8_shines 25 = .ok (.invokevirtual 53, 3) := by decide +kernel
theorem dX8_shines_28 : decode cX8_shines 28 = .ok (.iconst 2, 1) := by decide +kernel
theorem dX8_shines_29 : decode cX8_shines 29 = .ok (.invokevirtual 49, 3) := by decide +kernel
theorem dX8_shines_32 : decode cX8_shines 32 = .ok (.iload_n 2, 1) := by decide +kernel
theorem dX8_shines_33 : decode cX8_shines 33 = .ok (.iadd, 1) := by decide +kernel
theorem dX8_shines_34 : decode cX8_shines 34 = .ok (.istore_n 3, 1) := by decide +kernel
theorem dX8_shines_35 : decode cX8_shines 35 = .ok (.iload_n 3, 1) := by decide +kernel
theorem dX8_shines_36 : decode cX8_shines 36 = .ok (.bipush 20, 2) := by decide +kernel
theorem dX8_shines_38 : decode cX8_shines 38 = .ok (.if_icmp .le 5, 3) := by decide +kernel
theorem dX8_shines_41 : decode cX8_shines 41 = .ok (.iconst 3, 1) := by decide +kernel
theorem dX8_shines_42 : decode cX8_shines 42 = .ok (.ireturn, 1) := by decide +kernel
theorem dX8_shines_43 : decode cX8_shines 43 = .ok (.aload_n 0, 1) := by decide +kernel
theorem dX8_shines_44 : decode cX8_shines 44 = .ok (.getfield 9, 3) := by decide +kernel
theorem dX8_shines_47 : decode cX8_shines 47 = .ok (.iconst 3, 1) := by decide +kernel
theorem dX8_shines_48 : decode cX8_shines 48 = .ok (.iaload, 1) := by decide +kernel
theorem dX8_shines_49 : decode cX8_shines 49 = .ok (.iconst 3, 1) := by decide +kernel
theorem dX8_shines_50 : decode cX8_shines 50 = .ok (.iload_n 2, 1) := by decide +kernel
theorem dX8_shines_51 : decode cX8_shines 51 = .ok (.imul, 1) := by decide +kernel
theorem dX8_shines_52 : decode cX8_shines 52 = .ok (.if_icmp .ge 5, 3) := by decide +kernel
theorem dX8_shines_55 : decode cX8_shines 55 = .ok (.iconst 4, 1) := by decide +kernel
theorem dX8_shines_56 : decode cX8_shines 56 = .ok (.ireturn, 1) := by decide +kernel
theorem dX8_shines_57 : decode cX8_shines 57 = .ok (.aload_n 0, 1) := by decide +kernel
theorem dX8_shines_58 : decode cX8_shines 58 = .ok (.getfield 9, 3) := by decide +kernel
theorem dX8_shines_61 : decode cX8_shines 61 = .ok (.iconst 3, 1) := by decide +kernel
theorem dX8_shines_62 : decode cX8_shines 62 = .ok (.dup2, 1) := by decide +kernel
theorem dX8_shines_63 : decode cX8_shines 63 = .ok (.iaload, 1) := by decide +kernel
theorem dX8_shines_64 : decode cX8_shines 64 = .ok (.iconst 3, 1) := by decide +kernel
theorem dX8_shines_65 : decode cX8_shines 65 = .ok (.iload_n 2, 1) := by decide +kernel
theorem dX8_shines_66 : decode cX8_shines 66 = .ok (.imul, 1) := by decide +kernel
theorem dX8_shines_67 : decode cX8_shines 67 = .ok (.isub, 1) := by decide +kernel
theorem dX8_shines_68 : decode cX8_shines 68 = .ok (.iastore, 1) := by decide +kernel
theorem dX8_shines_69 : decode cX8_shines 69 = .ok (.aload_n 0, 1) := by decide +kernel
theorem dX8_shines_70 : decode cX8_shines 70 = .ok (.aload_n 0, 1) := by decide +kernel
theorem dX8_shines_71 : decode cX8_shines 71 = .ok (.iload_n 1, 1) := by decide +kernel
theorem dX8_shines_72 : decode cX8_shines 72 = .ok (.invokevirtual 53, 3) := by decide +kernel
theorem dX8_shines_75 : decode cX8_shines 75 = .ok (.iconst 2, 1) := by decide +kernel
theorem dX8_shines_76 : decode cX8_shines 76 = .ok (.iload_n 3, 1) := by decide +kernel
theorem dX8_shines_77 : decode cX8_shines 77 = .ok (.invokevirtual 57, 3) := by decide +kernel
theorem dX8_shines_80 : decode cX8_shines 80 = .ok (.aload_n 0, 1) := by decide +kernel
theorem dX8_shines_81 : decode cX8_shines 81 = .ok (.iload_n 3, 1) := by decide +kernel
theorem dX8_shines_82 : decode cX8_shines 82 = .ok (.putfield 46, 3) := by decide +kernel
theorem dX8_shines_85 : decode cX8_shines 85 = .ok (.iconst 0, 1) := by decide +kernel
theorem dX8_shines_86 : decode cX8_shines 86 = .ok (.ireturn, 1) := by decide +kernel
theorem dX8_brighten_0 : decode cX8_brighten 0 = .ok (.aload_n 0, 1) := by decide +kernel
theorem dX8_brighten_1 : decode cX8_brighten 1 = .ok (.invokevirtual 73, 3) := by decide +kernel
theorem dX8_brighten_4 : decode cX8_brighten 4 = .ok (.aload_n 0, 1) := by decide +kernel
theorem dX8_brighten_5 : decode cX8_brighten 5 = .ok (.aload_n 0, 1) := by decide +kernel
theorem dX8_brighten_6 : decode cX8_brighten 6 = .ok (.iload_n 1, 1) := by decide +kernel
theorem dX8_brighten_7 : decode cX8_brighten 7 = .ok (.iload_n 2, 1) := by decide +kernel
theorem dX8_brighten_8 : decode cX8_brighten 8 = .ok (.invokevirtual 93, 3) := by decide +kernel
theorem dX8_brighten_11 : decode cX8_brighten 11 = .ok (.iconst 1, 1) := by decide +kernel
theorem dX8_brighten_12 : decode cX8_brighten 12 = .ok (.iconst 2, 1) := by decide +kernel
theorem dX8_brighten_13 : decode cX8_brighten 13 = .ok (.iconst 3, 1) := by decide +kernel
theorem dX8_brighten_14 : decode cX8_brighten 14 = .ok (.iconst 4, 1) := by decide +kernel
theorem dX8_brighten_15 : decode cX8_brighten 15 = .ok (.invokevirtual 80, 3) := by decide +kernel
theorem dX8_brighten_18 : decode cX8_brighten 18 = .ok (.ireturn, 1) := by decide +kernel
theorem dX8_goOn_0 : decode cX8_goOn 0 = .ok (.iload_n 1, 1) := by decide +kernel
theorem dX8_goOn_1 : decode cX8_goOn 1 = .ok (.iconst 1, 1) := by decide +kernel
theorem dX8_goOn_2 : decode cX8_goOn 2 = .ok (.bipush 60, 2) := by decide +kernel
theorem dX8_goOn_4 : decode cX8_goOn 4 = .ok (.invokestatic 69, 3) := by decide +kernel
theorem dX8_goOn_7 : decode cX8_goOn 7 = .ok (.ifCond .ne 5, 3) := by decide +kernel
theorem dX8_goOn_10 : decode cX8_goOn 10 = .ok (.iconst 2, 1) := by decide +kernel
theorem dX8_goOn_11 : decode cX8_goOn 11 = .ok (.ireturn, 1) := by decide +kernel
theorem dX8_goOn_12 : decode cX8_goOn 12 = .ok (.aload_n 0, 1) := by decide +kernel
theorem dX8_goOn_13 : decode cX8_goOn 13 = .ok (.iconst 0, 1) := by decide +kernel
theorem dX8_goOn_14 : decode cX8_goOn 14 = .ok (.putfield 46, 3) := by decide +kernel
theorem dX8_goOn_17 : decode cX8_goOn 17 = .ok (.iconst 0, 1) := by decide +kernel
theorem dX8_goOn_18 : decode cX8_goOn 18 = .ok (.istore_n 2, 1) := by decide +kernel
theorem dX8_goOn_19 : decode cX8_goOn 19 = .ok (.iload_n 2, 1) := by decide +kernel
theorem dX8_goOn_20 : decode cX8_goOn 20 = .ok (.iload_n 1, 1) := by decide +kernel
theorem dX8_goOn_21 : decode cX8_goOn 21 = .ok (.if_icmp .ge 22, 3) := by decide +kernel
theorem dX8_goOn_24 : decode cX8_goOn 24 = .ok (.aload_n 0, 1) := by decide +kernel
theorem dX8_goOn_25 : decode cX8_goOn 25 = .ok (.dup, 1) := by decide +kernel
theorem dX8_goOn_26 : decode cX8_goOn 26 = .ok (.getfield 46, 3) := by decide +kernel
theorem dX8_goOn_29 : decode cX8_goOn 29 = .ok (.aload_n 0, 1) := by decide +kernel
theorem dX8_goOn_30 : decode cX8_goOn 30 = .ok (.invokevirtual 96, 3) := by decide +kernel
theorem dX8_goOn_33 : decode cX8_goOn 33 = .ok (.iadd, 1) := by decide +kernel
theorem dX8_goOn_34 : decode cX8_goOn 34 = .ok (.putfield 46, 3) := by decide +kernel
theorem dX8_goOn_37 : decode cX8_goOn 37 = .ok (.iinc 2 1, 3) := by decide +kernel
theorem dX8_goOn_40 : decode cX8_goOn 40 = .ok (.goto (-21), 3) := by decide +kernel
theorem dX8_goOn_43 : decode cX8_goOn 43 = .ok (.iconst 0, 1) := by decide +kernel
theorem dX8_goOn_44 : decode cX8_goOn 44 = .ok (.ireturn, 1) := by decide +kernel
theorem dX8_passDays_0 : decode cX8_passDays 0 = .ok (.aload_n 0, 1) := by decide +kernel
theorem dX8_passDays_1 : decode cX8_passDays 1 = .ok (.invokevirtual 73, 3) := by decide +kernel
theorem dX8_passDays_4 : decode cX8_passDays 4 = .ok (.aload_n 0, 1) := by decide +kernel
theorem dX8_passDays_5 : decode cX8_passDays 5 = .ok (.aload_n 0, 1) := by decide +kernel
theorem dX8_passDays_6 : decode cX8_passDays 6 = .ok (.iload_n 1, 1) := by decide +kernel
theorem dX8_passDays_7 : decode cX8_passDays 7 = .ok (.invokevirtual 100, 3) := by decide +kernel
theorem dX8_passDays_10 : decode cX8_passDays 10 = .ok (.iconst 0, 1) := by decide +kernel
theorem dX8_passDays_11 : decode cX8_passDays 11 = .ok (.iconst 1, 1) := by decide +kernel
theorem dX8_passDays_12 : decode cX8_passDays 12 = .ok (.iconst 0, 1) := by decide +kernel
theorem dX8_passDays_13 : decode cX8_passDays 13 = .ok (.iconst 0, 1) := by decide +kernel
theorem dX8_passDays_14 : decode cX8_passDays 14 = .ok (.invokevirtual 80, 3) := by decide +kernel
theorem dX8_passDays_17 : decode cX8_passDays 17 = .ok (.ireturn, 1) := by decide +kernel
theorem dX8_dustOf_0 : decode cX8_dustOf 0 = .ok (.iconst 0, 1) := by decide +kernel
theorem dX8_dustOf_1 : decode cX8_dustOf 1 = .ok (.istore_n 3, 1) := by decide +kernel
theorem dX8_dustOf_2 : decode cX8_dustOf 2 = .ok (.iconst 0, 1) := by decide +kernel
theorem dX8_dustOf_3 : decode cX8_dustOf 3 = .ok (.istore 4, 2) := by decide +kernel
theorem dX8_dustOf_5 : decode cX8_dustOf 5 = .ok (.iload 4, 2) := by decide +kernel
theorem dX8_dustOf_7 : decode cX8_dustOf 7 = .ok (.iload_n 2, 1) := by decide +kernel
theorem dX8_dustOf_8 : decode cX8_dustOf 8 = .ok (.if_icmp .ge 27, 3) := by decide +kernel
theorem dX8_dustOf_11 : decode cX8_dustOf 11 = .ok (.iload_n 3, 1) := by decide +kernel
theorem dX8_dustOf_12 : decode cX8_dustOf 12 = .ok (.aload_n 0, 1) := by decide +kernel
theorem dX8_dustOf_13 : decode cX8_dustOf 13 = .ok (.getfield 9, 3) := by decide +kernel
theorem dX8_dustOf_16 : decode cX8_dustOf 16 = .ok (.bipush 37, 2) := by decide +kernel
theorem dX8_dustOf_18 : decode cX8_dustOf 18 = .ok (.iload_n 1, 1) := by decide +kernel
theorem dX8_dustOf_19 : decode cX8_dustOf 19 = .ok (.iload 4, 2) := by decide +kernel
theorem dX8_dustOf_21 : decode cX8_dustOf 21 = .ok (.iadd, 1) := by decide +kernel
theorem dX8_dustOf_22 : decode cX8_dustOf 22 = .ok (.bipush 12, 2) := by decide +kernel
theorem dX8_dustOf_24 : decode cX8_dustOf 24 = .ok (.irem, 1) := by decide +kernel
theorem dX8_dustOf_25 : decode cX8_dustOf 25 = .ok (.iadd, 1) := by decide +kernel
theorem dX8_dustOf_26 : decode cX8_dustOf 26 = .ok (.iaload, 1) := by decide +kernel
theorem dX8_dustOf_27 : decode cX8_dustOf 27 = .ok (.iadd, 1) := by decide +kernel
theorem dX8_dustOf_28 : decode cX8_dustOf 28 = .ok (.istore_n 3, 1) := by decide +kernel
theorem dX8_dustOf_29 : decode cX8_dustOf 29 = .ok (.iinc 4 1, 3) := by decide +kernel
theorem dX8_dustOf_32 : decode cX8_dustOf 32 = .ok (.goto (-27), 3) := by decide +kernel
theorem dX8_dustOf_35 : decode cX8_dustOf 35 = .ok (.iload_n 3, 1) := by decide +kernel
theorem dX8_dustOf_36 : decode cX8_dustOf 36 = .ok (.ireturn, 1) := by decide +kernel
theorem dX8_cleans_0 : decode cX8_cleans 0 = .ok (.iload_n 1, 1) := by decide +kernel
theorem dX8_cleans_1 : decode cX8_cleans 1 = .ok (.iconst 0, 1) := by decide +kernel
theorem dX8_cleans_2 : decode cX8_cleans 2 = .ok (.bipush 11, 2) := by decide +kernel
theorem dX8_cleans_4 : decode cX8_cleans 4 = .ok (.invokestatic 69, 3) := by decide +kernel
theorem dX8_cleans_7 : decode cX8_cleans 7 = .ok (.ifCond .ne 5, 3) := by decide +kernel
theorem dX8_cleans_10 : decode cX8_cleans 10 = .ok (.iconst 1, 1) := by decide +kernel
theorem dX8_cleans_11 : decode cX8_cleans 11 = .ok (.ireturn, 1) := by decide +kernel
theorem dX8_cleans_12 : decode cX8_cleans 12 = .ok (.iload_n 2, 1) := by decide +kernel
theorem dX8_cleans_13 : decode cX8_cleans 13 = .ok (.iconst 1, 1) := by decide +kernel
theorem dX8_cleans_14 : decode cX8_cleans 14 = .ok (.bipush 12, 2) := by decide +kernel
theorem dX8_cleans_16 : decode cX8_cleans 16 = .ok (.invokestatic 69, 3) := by decide +kernel
theorem dX8_cleans_19 : decode cX8_cleans 19 = .ok (.ifCond .ne 5, 3) := by decide +kernel
theorem dX8_cleans_22 : decode cX8_cleans 22 = .ok (.iconst 2, 1) := by decide +kernel
theorem dX8_cleans_23 : decode cX8_cleans 23 = .ok (.ireturn, 1) := by decide +kernel
theorem dX8_cleans_24 : decode cX8_cleans 24 = .ok (.aload_n 0, 1) := by decide +kernel
theorem dX8_cleans_25 : decode cX8_cleans 25 = .ok (.iload_n 1, 1) := by decide +kernel
theorem dX8_cleans_26 : decode cX8_cleans 26 = .ok (.iload_n 2, 1) := by decide +kernel
theorem dX8_cleans_27 : decode cX8_cleans 27 = .ok (.invokevirtual 103, 3) := by decide +kernel
theorem dX8_cleans_30 : decode cX8_cleans 30 = .ok (.istore_n 3, 1) := by decide +kernel
theorem dX8_cleans_31 : decode cX8_cleans 31 = .ok (.aload_n 0, 1) := by decide +kernel
theorem dX8_cleans_32 : decode cX8_cleans 32 = .ok (.getfield 9, 3) := by decide +kernel
theorem dX8_cleans_35 : decode cX8_cleans 35 = .ok (.iconst 3, 1) := by decide +kernel
theorem dX8_cleans_36 : decode cX8_cleans 36 = .ok (.iaload, 1) := by decide +kernel
theorem dX8_cleans_37 : decode cX8_cleans 37 = .ok (.iload_n 3, 1) := by decide +kernel
theorem dX8_cleans_38 : decode cX8_cleans 38 = .ok (.iadd, 1) := by decide +kernel
theorem dX8_cleans_39 : decode cX8_cleans 39 = .ok (.aload_n 0, 1) := by decide +kernel
theorem dX8_cleans_40 : decode cX8_cleans 40 = .ok (.getfield 9, 3) := by decide +kernel
theorem dX8_cleans_43 : decode cX8_cleans 43 = .ok (.iconst 4, 1) := by decide +kernel
theorem dX8_cleans_44 : decode cX8_cleans 44 = .ok (.iaload, 1) := by decide +kernel
theorem dX8_cleans_45 : decode cX8_cleans 45 = .ok (.iload_n 2, 1) := by decide +kernel
theorem dX8_cleans_46 : decode cX8_cleans 46 = .ok (.imul, 1) := by decide +kernel
theorem dX8_cleans_47 : decode cX8_cleans 47 = .ok (.isub, 1) := by decide +kernel
theorem dX8_cleans_48 : decode cX8_cleans 48 = .ok (.ifCond .ge 5, 3) := by decide +kernel
theorem dX8_cleans_51 : decode cX8_cleans 51 = .ok (.iconst 3, 1) := by decide +kernel
theorem dX8_cleans_52 : decode cX8_cleans 52 = .ok (.ireturn, 1) := by decide +kernel
theorem dX8_cleans_53 : decode cX8_cleans 53 = .ok (.aload_n 0, 1) := by decide +kernel
theorem dX8_cleans_54 : decode cX8_cleans 54 = .ok (.getfield 9, 3) := by decide +kernel
theorem dX8_cleans_57 : decode cX8_cleans 57 = .ok (.iconst 3, 1) := by decide +kernel
theorem dX8_cleans_58 : decode cX8_cleans 58 = .ok (.dup2, 1) := by decide +kernel
theorem dX8_cleans_59 : decode cX8_cleans 59 = .ok (.iaload, 1) := by decide +kernel
theorem dX8_cleans_60 : decode cX8_cleans 60 = .ok (.iload_n 3, 1) := by decide +kernel
theorem dX8_cleans_61 : decode cX8_cleans 61 = .ok (.aload_n 0, 1) := by decide +kernel
theorem dX8_cleans_62 : decode cX8_cleans 62 = .ok (.getfield 9, 3) := by decide +kernel
theorem dX8_cleans_65 : decode cX8_cleans 65 = .ok (.iconst 4, 1) := by decide +kernel
theorem dX8_cleans_66 : decode cX8_cleans 66 = .ok (.iaload, 1) := by decide +kernel
theorem dX8_cleans_67 : decode cX8_cleans 67 = .ok (.iload_n 2, 1) := by decide +kernel
theorem dX8_cleans_68 : decode cX8_cleans 68 = .ok (.imul, 1) := by decide +kernel
theorem dX8_cleans_69 : decode cX8_cleans 69 = .ok (.isub, 1) := by decide +kernel
theorem dX8_cleans_70 : decode cX8_cleans 70 = .ok (.iadd, 1) := by decide +kernel
theorem dX8_cleans_71 : decode cX8_cleans 71 = .ok (.iastore, 1) := by decide +kernel
theorem dX8_cleans_72 : decode cX8_cleans 72 = .ok (.iconst 0, 1) := by decide +kernel
theorem dX8_cleans_73 : decode cX8_cleans 73 = .ok (.istore 4, 2) := by decide +kernel
theorem dX8_cleans_75 : decode cX8_cleans 75 = .ok (.iload 4, 2) := by decide +kernel
theorem dX8_cleans_77 : decode cX8_cleans 77 = .ok (.iload_n 2, 1) := by decide +kernel
theorem dX8_cleans_78 : decode cX8_cleans 78 = .ok (.if_icmp .ge 25, 3) := by decide +kernel
theorem dX8_cleans_81 : decode cX8_cleans 81 = .ok (.aload_n 0, 1) := by decide +kernel
theorem dX8_cleans_82 : decode cX8_cleans 82 = .ok (.getfield 9, 3) := by decide +kernel
theorem dX8_cleans_85 : decode cX8_cleans 85 = .ok (.bipush 37, 2) := by decide +kernel
theorem dX8_cleans_87 : decode cX8_cleans 87 = .ok (.iload_n 1, 1) := by decide +kernel
theorem dX8_cleans_88 : decode cX8_cleans 88 = .ok (.iload 4, 2) := by decide +kernel
theorem dX8_cleans_90 : decode cX8_cleans 90 = .ok (.iadd, 1) := by decide +kernel
theorem dX8_cleans_91 : decode cX8_cleans 91 = .ok (.bipush 12, 2) := by decide +kernel
theorem dX8_cleans_93 : decode cX8_cleans 93 = .ok (.irem, 1) := by decide +kernel
theorem dX8_cleans_94 : decode cX8_cleans 94 = .ok (.iadd, 1) := by decide +kernel
theorem dX8_cleans_95 : decode cX8_cleans 95 = .ok (.iconst 0, 1) := by decide +kernel
theorem dX8_cleans_96 : decode cX8_cleans 96 = .ok (.iastore, 1) := by decide +kernel
theorem dX8_cleans_97 : decode cX8_cleans 97 = .ok (.iinc 4 1, 3) := by decide +kernel
theorem dX8_cleans_100 : decode cX8_cleans 100 = .ok (.goto (-25), 3) := by decide +kernel
theorem dX8_cleans_103 : decode cX8_cleans 103 = .ok (.aload_n 0, 1) := by decide +kernel
theorem dX8_cleans_104 : decode cX8_cleans 104 = .ok (.iload_n 3, 1) := by decide +kernel
theorem dX8_cleans_105 : decode cX8_cleans 105 = .ok (.putfield 46, 3) := by decide +kernel
theorem dX8_cleans_108 : decode cX8_cleans 108 = .ok (.iconst 0, 1) := by decide +kernel
theorem dX8_cleans_109 : decode cX8_cleans 109 = .ok (.ireturn, 1) := by decide +kernel
theorem dX8_clean_0 : decode cX8_clean 0 = .ok (.aload_n 0, 1) := by decide +kernel
theorem dX8_clean_1 : decode cX8_clean 1 = .ok (.invokevirtual 73, 3) := by decide +kernel
theorem dX8_clean_4 : decode cX8_clean 4 = .ok (.aload_n 0, 1) := by decide +kernel
theorem dX8_clean_5 : decode cX8_clean 5 = .ok (.aload_n 0, 1) := by decide +kernel
theorem dX8_clean_6 : decode cX8_clean 6 = .ok (.iload_n 1, 1) := by decide +kernel
theorem dX8_clean_7 : decode cX8_clean 7 = .ok (.iload_n 2, 1) := by decide +kernel
theorem dX8_clean_8 : decode cX8_clean 8 = .ok (.invokevirtual 106, 3) := by decide +kernel
theorem dX8_clean_11 : decode cX8_clean 11 = .ok (.iconst 1, 1) := by decide +kernel
theorem dX8_clean_12 : decode cX8_clean 12 = .ok (.iconst 2, 1) := by decide +kernel
theorem dX8_clean_13 : decode cX8_clean 13 = .ok (.iconst 3, 1) := by decide +kernel
theorem dX8_clean_14 : decode cX8_clean 14 = .ok (.iconst 0, 1) := by decide +kernel
theorem dX8_clean_15 : decode cX8_clean 15 = .ok (.invokevirtual 80, 3) := by decide +kernel
theorem dX8_clean_18 : decode cX8_clean 18 = .ok (.ireturn, 1) := by decide +kernel
theorem dX8_rates_0 : decode cX8_rates 0 = .ok (.iload_n 1, 1) := by decide +kernel
theorem dX8_rates_1 : decode cX8_rates 1 = .ok (.iconst 0, 1) := by decide +kernel
theorem dX8_rates_2 : decode cX8_rates 2 = .ok (.bipush 9, 2) := by decide +kernel
theorem dX8_rates_4 : decode cX8_rates 4 = .ok (.invokestatic 69, 3) := by decide +kernel
theorem dX8_rates_7 : decode cX8_rates 7 = .ok (.ifCond .ne 5, 3) := by decide +kernel
theorem dX8_rates_10 : decode cX8_rates 10 = .ok (.iconst 2, 1) := by decide +kernel
theorem dX8_rates_11 : decode cX8_rates 11 = .ok (.ireturn, 1) := by decide +kernel
theorem dX8_rates_12 : decode cX8_rates 12 = .ok (.aload_n 0, 1) := by decide +kernel
theorem dX8_rates_13 : decode cX8_rates 13 = .ok (.aload_n 0, 1) := by decide +kernel
theorem dX8_rates_14 : decode cX8_rates 14 = .ok (.getfield 9, 3) := by decide +kernel
theorem dX8_rates_17 : decode cX8_rates 17 = .ok (.iconst 4, 1) := by decide +kernel
theorem dX8_rates_18 : decode cX8_rates 18 = .ok (.iaload, 1) := by decide +kernel
theorem dX8_rates_19 : decode cX8_rates 19 = .ok (.putfield 46, 3) := by decide +kernel
theorem dX8_rates_22 : decode cX8_rates 22 = .ok (.aload_n 0, 1) := by decide +kernel
theorem dX8_rates_23 : decode cX8_rates 23 = .ok (.getfield 9, 3) := by decide +kernel
theorem dX8_rates_26 : decode cX8_rates 26 = .ok (.iconst 4, 1) := by decide +kernel
theorem dX8_rates_27 : decode cX8_rates 27 = .ok (.iload_n 1, 1) := by decide +kernel
theorem dX8_rates_28 : decode cX8_rates 28 = .ok (.iastore, 1) := by decide +kernel
theorem dX8_rates_29 : decode cX8_rates 29 = .ok (.iconst 0, 1) := by decide +kernel
theorem dX8_rates_30 : decode cX8_rates 30 = .ok (.ireturn, 1) := by decide +kernel
theorem dX8_setRate_0 : decode cX8_setRate 0 = .ok (.aload_n 0, 1) := by decide +kernel
theorem dX8_setRate_1 : decode cX8_setRate 1 = .ok (.invokevirtual 73, 3) := by decide +kernel
theorem dX8_setRate_4 : decode cX8_setRate 4 = .ok (.aload_n 0, 1) := by decide +kernel
theorem dX8_setRate_5 : decode cX8_setRate 5 = .ok (.aload_n 0, 1) := by decide +kernel
theorem dX8_setRate_6 : decode cX8_setRate 6 = .ok (.iload_n 1, 1) := by decide +kernel
theorem dX8_setRate_7 : decode cX8_setRate 7 = .ok (.invokevirtual 109, 3) := by decide +kernel
theorem dX8_setRate_10 : decode cX8_setRate 10 = .ok (.iconst 0, 1) := by decide +kernel
theorem dX8_setRate_11 : decode cX8_setRate 11 = .ok (.iconst 1, 1) := by decide +kernel
theorem dX8_setRate_12 : decode cX8_setRate 12 = .ok (.iconst 0, 1) := by decide +kernel
theorem dX8_setRate_13 : decode cX8_setRate 13 = .ok (.iconst 0, 1) := by decide +kernel
theorem dX8_setRate_14 : decode cX8_setRate 14 = .ok (.invokevirtual 80, 3) := by decide +kernel
theorem dX8_setRate_17 : decode cX8_setRate 17 = .ok (.ireturn, 1) := by decide +kernel
theorem dX8_told_0 : decode cX8_told 0 = .ok (.aload_n 0, 1) := by decide +kernel
theorem dX8_told_1 : decode cX8_told 1 = .ok (.iconst 0, 1) := by decide +kernel
theorem dX8_told_2 : decode cX8_told 2 = .ok (.putfield 36, 3) := by decide +kernel
theorem dX8_told_5 : decode cX8_told 5 = .ok (.aload_n 0, 1) := by decide +kernel
theorem dX8_told_6 : decode cX8_told 6 = .ok (.getfield 9, 3) := by decide +kernel
theorem dX8_told_9 : decode cX8_told 9 = .ok (.iload_n 1, 1) := by decide +kernel
theorem dX8_told_10 : decode cX8_told 10 = .ok (.iaload, 1) := by decide +kernel
theorem dX8_told_11 : decode cX8_told 11 = .ok (.ireturn, 1) := by decide +kernel
theorem dX8_cometCount_0 : decode cX8_cometCount 0 = .ok (.aload_n 0, 1) := by decide +kernel
theorem dX8_cometCount_1 : decode cX8_cometCount 1 = .ok (.iconst 0, 1) := by decide +kernel
theorem dX8_cometCount_2 : decode cX8_cometCount 2 = .ok (.invokevirtual 112, 3) := by decide +kernel
theorem dX8_cometCount_5 : decode cX8_cometCount 5 = .ok (.ireturn, 1) := by decide +kernel
theorem dX8_cometAt_0 : decode cX8_cometAt 0 = .ok (.aload_n 0, 1) := by decide +kernel
theorem dX8_cometAt_1 : decode cX8_cometAt 1 = .ok (.iload_n 1, 1) := by decide +kernel
theorem dX8_cometAt_2 : decode cX8_cometAt 2 = .ok (.iconst 0, 1) := by decide +kernel
theorem dX8_cometAt_3 : decode cX8_cometAt 3 = .ok (.aload_n 0, 1) := by decide +kernel
theorem dX8_cometAt_4 : decode cX8_cometAt 4 = .ok (.getfield 9, 3) := by decide +kernel
theorem dX8_cometAt_7 : decode cX8_cometAt 7 = .ok (.iconst 0, 1) := by decide +kernel
theorem dX8_cometAt_8 : decode cX8_cometAt 8 = .ok (.iaload, 1) := by decide +kernel
theorem dX8_cometAt_9 : decode cX8_cometAt 9 = .ok (.iconst 1, 1) := by decide +kernel
theorem dX8_cometAt_10 : decode cX8_cometAt 10 = .ok (.isub, 1) := by decide +kernel
theorem dX8_cometAt_11 : decode cX8_cometAt 11 = .ok (.invokestatic 69, 3) := by decide +kernel
theorem dX8_cometAt_14 : decode cX8_cometAt 14 = .ok (.invokevirtual 115, 3) := by decide +kernel
theorem dX8_cometAt_17 : decode cX8_cometAt 17 = .ok (.ifCond .eq 12, 3) := by decide +kernel
theorem dX8_cometAt_20 : decode cX8_cometAt 20 = .ok (.aload_n 0, 1) := by decide +kernel
theorem dX8_cometAt_21 : decode cX8_cometAt 21 = .ok (.iload_n 1, 1) := by decide +kernel
theorem dX8_cometAt_22 : decode cX8_cometAt 22 = .ok (.iconst 0, 1) := by decide +kernel
theorem dX8_cometAt_23 : decode cX8_cometAt 23 = .ok (.invokevirtual 49, 3) := by decide +kernel
theorem dX8_cometAt_26 : decode cX8_cometAt 26 = .ok (.goto 4, 3) := by decide +kernel
theorem dX8_cometAt_29 : decode cX8_cometAt 29 = .ok (.iconst 0, 1) := by decide +kernel
theorem dX8_cometAt_30 : decode cX8_cometAt 30 = .ok (.ireturn, 1) := by decide +kernel
theorem dX8_exists_0 : decode cX8_exists 0 = .ok (.aload_n 0, 1) := by decide +kernel
theorem dX8_exists_1 : decode cX8_exists 1 = .ok (.iconst 0, 1) := by decide +kernel
theorem dX8_exists_2 : decode cX8_exists 2 = .ok (.putfield 36, 3) := by decide +kernel
theorem dX8_exists_5 : decode cX8_exists 5 = .ok (.aload_n 0, 1) := by decide +kernel
theorem dX8_exists_6 : decode cX8_exists 6 = .ok (.iload_n 1, 1) := by decide +kernel
theorem dX8_exists_7 : decode cX8_exists 7 = .ok (.invokevirtual 84, 3) := by decide +kernel
theorem dX8_exists_10 : decode cX8_exists 10 = .ok (.ireturn, 1) := by decide +kernel
theorem dX8_ofComet_0 : decode cX8_ofComet 0 = .ok (.aload_n 0, 1) := by decide +kernel
theorem dX8_ofComet_1 : decode cX8_ofComet 1 = .ok (.aload_n 0, 1) := by decide +kernel
theorem dX8_ofComet_2 : decode cX8_ofComet 2 = .ok (.iload_n 1, 1) := by decide +kernel
theorem dX8_ofComet_3 : decode cX8_ofComet 3 = .ok (.invokevirtual 84, 3) := by decide +kernel
theorem dX8_ofComet_6 : decode cX8_ofComet 6 = .ok (.invokevirtual 115, 3) := by decide +kernel
theorem dX8_ofComet_9 : decode cX8_ofComet 9 = .ok (.ifCond .eq 16, 3) := by decide +kernel
theorem dX8_ofComet_12 : decode cX8_ofComet 12 = .ok (.aload_n 0, 1) := by decide +kernel
theorem dX8_ofComet_13 : decode cX8_ofComet 13 = .ok (.aload_n 0, 1) := by decide +kernel
theorem dX8_ofComet_14 : decode cX8_ofComet 14 = .ok (.iload_n 1, 1) := by decide +kernel
theorem dX8_ofComet_15 : decode cX8_ofComet 15 = .ok (.invokevirtual 53, 3) := by decide +kernel
theorem dX8_ofComet_18 : decode cX8_ofComet 18 = .ok (.iload_n 2, 1) := by decide +kernel
theorem dX8_ofComet_19 : decode cX8_ofComet 19 = .ok (.invokevirtual 49, 3) := by decide +kernel
theorem dX8_ofComet_22 : decode cX8_ofComet 22 = .ok (.goto 4, 3) := by decide +kernel
theorem dX8_ofComet_25 : decode cX8_ofComet 25 = .ok (.iconst 0, 1) := by decide +kernel
theorem dX8_ofComet_26 : decode cX8_ofComet 26 = .ok (.ireturn, 1) := by decide +kernel
theorem dX8_period_0 : decode cX8_period 0 = .ok (.aload_n 0, 1) := by decide +kernel
theorem dX8_period_1 : decode cX8_period 1 = .ok (.iload_n 1, 1) := by decide +kernel
theorem dX8_period_2 : decode cX8_period 2 = .ok (.iconst 1, 1) := by decide +kernel
theorem dX8_period_3 : decode cX8_period 3 = .ok (.invokevirtual 119, 3) := by decide +kernel
theorem dX8_period_6 : decode cX8_period 6 = .ok (.ireturn, 1) := by decide +kernel
theorem dX8_brightness_0 : decode cX8_brightness 0 = .ok (.aload_n 0, 1) := by decide +kernel
theorem dX8_brightness_1 : decode cX8_brightness 1 = .ok (.iload_n 1, 1) := by decide +kernel
theorem dX8_brightness_2 : decode cX8_brightness 2 = .ok (.iconst 2, 1) := by decide +kernel
theorem dX8_brightness_3 : decode cX8_brightness 3 = .ok (.invokevirtual 119, 3) := by decide +kernel
theorem dX8_brightness_6 : decode cX8_brightness 6 = .ok (.ireturn, 1) := by decide +kernel
theorem dX8_tail_0 : decode cX8_tail 0 = .ok (.aload_n 0, 1) := by decide +kernel
theorem dX8_tail_1 : decode cX8_tail 1 = .ok (.iload_n 1, 1) := by decide +kernel
theorem dX8_tail_2 : decode cX8_tail 2 = .ok (.invokevirtual 122, 3) := by decide +kernel
theorem dX8_tail_5 : decode cX8_tail 5 = .ok (.istore_n 2, 1) := by decide +kernel
theorem dX8_tail_6 : decode cX8_tail 6 = .ok (.aload_n 0, 1) := by decide +kernel
theorem dX8_tail_7 : decode cX8_tail 7 = .ok (.getfield 36, 3) := by decide +kernel
theorem dX8_tail_10 : decode cX8_tail 10 = .ok (.ifCond .ne 10, 3) := by decide +kernel
theorem dX8_tail_13 : decode cX8_tail 13 = .ok (.iload_n 2, 1) := by decide +kernel
theorem dX8_tail_14 : decode cX8_tail 14 = .ok (.invokestatic 125, 3) := by decide +kernel
theorem dX8_tail_17 : decode cX8_tail 17 = .ok (.goto 4, 3) := by decide +kernel
theorem dX8_tail_20 : decode cX8_tail 20 = .ok (.iconst 0, 1) := by decide +kernel
theorem dX8_tail_21 : decode cX8_tail 21 = .ok (.ireturn, 1) := by decide +kernel
theorem dX8_nextPass_0 : decode cX8_nextPass 0 = .ok (.aload_n 0, 1) := by decide +kernel
theorem dX8_nextPass_1 : decode cX8_nextPass 1 = .ok (.iload_n 1, 1) := by decide +kernel
theorem dX8_nextPass_2 : decode cX8_nextPass 2 = .ok (.iconst 3, 1) := by decide +kernel
theorem dX8_nextPass_3 : decode cX8_nextPass 3 = .ok (.invokevirtual 119, 3) := by decide +kernel
theorem dX8_nextPass_6 : decode cX8_nextPass 6 = .ok (.ireturn, 1) := by decide +kernel
theorem dX8_passesOf_0 : decode cX8_passesOf 0 = .ok (.aload_n 0, 1) := by decide +kernel
theorem dX8_passesOf_1 : decode cX8_passesOf 1 = .ok (.iload_n 1, 1) := by decide +kernel
theorem dX8_passesOf_2 : decode cX8_passesOf 2 = .ok (.iconst 4, 1) := by decide +kernel
theorem dX8_passesOf_3 : decode cX8_passesOf 3 = .ok (.invokevirtual 119, 3) := by decide +kernel
theorem dX8_passesOf_6 : decode cX8_passesOf 6 = .ok (.ireturn, 1) := by decide +kernel
theorem dX8_lastPass_0 : decode cX8_lastPass 0 = .ok (.aload_n 0, 1) := by decide +kernel
theorem dX8_lastPass_1 : decode cX8_lastPass 1 = .ok (.aload_n 0, 1) := by decide +kernel
theorem dX8_lastPass_2 : decode cX8_lastPass 2 = .ok (.iload_n 1, 1) := by decide +kernel
theorem dX8_lastPass_3 : decode cX8_lastPass 3 = .ok (.invokevirtual 84, 3) := by decide +kernel
theorem dX8_lastPass_6 : decode cX8_lastPass 6 = .ok (.invokevirtual 115, 3) := by decide +kernel
theorem dX8_lastPass_9 : decode cX8_lastPass 9 = .ok (.ifCond .eq 40, 3) := by decide +kernel
theorem dX8_lastPass_12 : decode cX8_lastPass 12 = .ok (.aload_n 0, 1) := by decide +kernel
theorem dX8_lastPass_13 : decode cX8_lastPass 13 = .ok (.aload_n 0, 1) := by decide +kernel
theorem dX8_lastPass_14 : decode cX8_lastPass 14 = .ok (.iload_n 1, 1) := by decide +kernel
theorem dX8_lastPass_15 : decode cX8_lastPass 15 = .ok (.invokevirtual 53, 3) := by decide +kernel
theorem dX8_lastPass_18 : decode cX8_lastPass 18 = .ok (.iconst 3, 1) := by decide +kernel
theorem dX8_lastPass_19 : decode cX8_lastPass 19 = .ok (.invokevirtual 49, 3) := by decide +kernel
theorem dX8_lastPass_22 : decode cX8_lastPass 22 = .ok (.aload_n 0, 1) := by decide +kernel
theorem dX8_lastPass_23 : decode cX8_lastPass 23 = .ok (.aload_n 0, 1) := by decide +kernel
theorem dX8_lastPass_24 : decode cX8_lastPass 24 = .ok (.iload_n 1, 1) := by decide +kernel
theorem dX8_lastPass_25 : decode cX8_lastPass 25 = .ok (.invokevirtual 53, 3) := by decide +kernel
theorem dX8_lastPass_28 : decode cX8_lastPass 28 = .ok (.iconst 2, 1) := by decide +kernel
theorem dX8_lastPass_29 : decode cX8_lastPass 29 = .ok (.invokevirtual 49, 3) := by decide +kernel
theorem dX8_lastPass_32 : decode cX8_lastPass 32 = .ok (.iconst 1, 1) := by decide +kernel
theorem dX8_lastPass_33 : decode cX8_lastPass 33 = .ok (.isub, 1) := by decide +kernel
theorem dX8_lastPass_34 : decode cX8_lastPass 34 = .ok (.aload_n 0, 1) := by decide +kernel
theorem dX8_lastPass_35 : decode cX8_lastPass 35 = .ok (.aload_n 0, 1) := by decide +kernel
theorem dX8_lastPass_36 : decode cX8_lastPass 36 = .ok (.iload_n 1, 1) := by decide +kernel
theorem dX8_lastPass_37 : decode cX8_lastPass 37 = .ok (.invokevirtual 53, 3) := by decide +kernel
theorem dX8_lastPass_40 : decode cX8_lastPass 40 = .ok (.iconst 1, 1) := by decide +kernel
theorem dX8_lastPass_41 : decode cX8_lastPass 41 = .ok (.invokevirtual 49, 3) := by decide +kernel
theorem dX8_lastPass_44 : decode cX8_lastPass 44 = .ok (.imul, 1) := by decide +kernel
theorem dX8_lastPass_45 : decode cX8_lastPass 45 = .ok (.iadd, 1) := by decide +kernel
theorem dX8_lastPass_46 : decode cX8_lastPass 46 = .ok (.goto 4, 3) := by decide +kernel
theorem dX8_lastPass_49 : decode cX8_lastPass 49 = .ok (.iconst 0, 1) := by decide +kernel
theorem dX8_lastPass_50 : decode cX8_lastPass 50 = .ok (.ireturn, 1) := by decide +kernel
theorem dX8_isAhead_0 : decode cX8_isAhead 0 = .ok (.aload_n 0, 1) := by decide +kernel
theorem dX8_isAhead_1 : decode cX8_isAhead 1 = .ok (.iload_n 1, 1) := by decide +kernel
theorem dX8_isAhead_2 : decode cX8_isAhead 2 = .ok (.iconst 2, 1) := by decide +kernel
theorem dX8_isAhead_3 : decode cX8_isAhead 3 = .ok (.invokevirtual 49, 3) := by decide +kernel
theorem dX8_isAhead_6 : decode cX8_isAhead 6 = .ok (.aload_n 0, 1) := by decide +kernel
theorem dX8_isAhead_7 : decode cX8_isAhead 7 = .ok (.iload_n 2, 1) := by decide +kernel
theorem dX8_isAhead_8 : decode cX8_isAhead 8 = .ok (.iconst 2, 1) := by decide +kernel
theorem dX8_isAhead_9 : decode cX8_isAhead 9 = .ok (.invokevirtual 49, 3) := by decide +kernel
theorem dX8_isAhead_12 : decode cX8_isAhead 12 = .ok (.isub, 1) := by decide +kernel
theorem dX8_isAhead_13 : decode cX8_isAhead 13 = .ok (.istore_n 3, 1) := by decide +kernel
theorem dX8_isAhead_14 : decode cX8_isAhead 14 = .ok (.aload_n 0, 1) := by decide +kernel
theorem dX8_isAhead_15 : decode cX8_isAhead 15 = .ok (.iload_n 2, 1) := by decide +kernel
theorem dX8_isAhead_16 : decode cX8_isAhead 16 = .ok (.iconst 3, 1) := by decide +kernel
theorem dX8_isAhead_17 : decode cX8_isAhead 17 = .ok (.invokevirtual 49, 3) := by decide +kernel
theorem dX8_isAhead_20 : decode cX8_isAhead 20 = .ok (.aload_n 0, 1) := by decide +kernel
theorem dX8_isAhead_21 : decode cX8_isAhead 21 = .ok (.iload_n 1, 1) := by decide +kernel
theorem dX8_isAhead_22 : decode cX8_isAhead 22 = .ok (.iconst 3, 1) := by decide +kernel
theorem dX8_isAhead_23 : decode cX8_isAhead 23 = .ok (.invokevirtual 49, 3) := by decide +kernel
theorem dX8_isAhead_26 : decode cX8_isAhead 26 = .ok (.isub, 1) := by decide +kernel
theorem dX8_isAhead_27 : decode cX8_isAhead 27 = .ok (.istore 4, 2) := by decide +kernel
theorem dX8_isAhead_29 : decode cX8_isAhead 29 = .ok (.iload_n 3, 1) := by decide +kernel
theorem dX8_isAhead_30 : decode cX8_isAhead 30 = .ok (.ifCond .gt 22, 3) := by decide +kernel
theorem dX8_isAhead_33 : decode cX8_isAhead 33 = .ok (.iload_n 3, 1) := by decide +kernel
theorem dX8_isAhead_34 : decode cX8_isAhead 34 = .ok (.ifCond .ne 22, 3) := by decide +kernel
theorem dX8_isAhead_37 : decode cX8_isAhead 37 = .ok (.iload 4, 2) := by decide +kernel
theorem dX8_isAhead_39 : decode cX8_isAhead 39 = .ok (.ifCond .gt 13, 3) := by decide +kernel
theorem dX8_isAhead_42 : decode cX8_isAhead 42 = .ok (.iload 4, 2) := by decide +kernel
theorem dX8_isAhead_44 : decode cX8_isAhead 44 = .ok (.ifCond .ne 12, 3) := by decide +kernel
theorem dX8_isAhead_47 : decode cX8_isAhead 47 = .ok (.iload_n 1, 1) := by decide +kernel
theorem dX8_isAhead_48 : decode cX8_isAhead 48 = .ok (.iload_n 2, 1) := by decide +kernel
theorem dX8_isAhead_49 : decode cX8_isAhead 49 = .ok (.if_icmp .ge 7, 3) := by decide +kernel
theorem dX8_isAhead_52 : decode cX8_isAhead 52 = .ok (.iconst 1, 1) := by decide +kernel
theorem dX8_isAhead_53 : decode cX8_isAhead 53 = .ok (.goto 4, 3) := by decide +kernel
theorem dX8_isAhead_56 : decode cX8_isAhead 56 = .ok (.iconst 0, 1) := by decide +kernel
theorem dX8_isAhead_57 : decode cX8_isAhead 57 = .ok (.ireturn, 1) := by decide +kernel
theorem dX8_cometAtRank_0 : decode cX8_cometAtRank 0 = .ok (.iconst 0, 1) := by decide +kernel
theorem dX8_cometAtRank_1 : decode cX8_cometAtRank 1 = .ok (.istore_n 2, 1) := by decide +kernel
theorem dX8_cometAtRank_2 : decode cX8_cometAtRank 2 = .ok (.iload_n 2, 1) := by decide +kernel
theorem dX8_cometAtRank_3 : decode cX8_cometAtRank 3 = .ok (.aload_n 0, 1) := by decide +kernel
theorem dX8_cometAtRank_4 : decode cX8_cometAtRank 4 = .ok (.getfield 9, 3) := by decide +kernel
theorem dX8_cometAtRank_7 : decode cX8_cometAtRank 7 = .ok (.iconst 0, 1) := by decide +kernel
theorem dX8_cometAtRank_8 : decode cX8_cometAtRank 8 = .ok (.iaload, 1) := by decide +kernel
theorem dX8_cometAtRank_9 : decode cX8_cometAtRank 9 = .ok (.if_icmp .ge 73, 3) := by decide +kernel
theorem dX8_cometAtRank_12 : decode cX8_cometAtRank 12 = .ok (.iconst 0, 1) := by decide +kernel
theorem dX8_cometAtRank_13 : decode cX8_cometAtRank 13 = .ok (.istore_n 3, 1) := by decide +kernel
theorem dX8_cometAtRank_14 : decode cX8_cometAtRank 14 = .ok (.iconst 0, 1) := by decide +kernel
theorem dX8_cometAtRank_15 : decode cX8_cometAtRank 15 = .ok (.istore 4, 2) := by decide +kernel
theorem dX8_cometAtRank_17 : decode cX8_cometAtRank 17 = .ok (.iload 4, 2) := by decide +kernel
theorem dX8_cometAtRank_19 : decode cX8_cometAtRank 19 = .ok (.aload_n 0, 1) := by decide +kernel
theorem dX8_cometAtRank_20 : decode cX8_cometAtRank 20 = .ok (.getfield 9, 3) := by decide +kernel
theorem dX8_cometAtRank_23 : decode cX8_cometAtRank 23 = .ok (.iconst 0, 1) := by decide +kernel
theorem dX8_cometAtRank_24 : decode cX8_cometAtRank 24 = .ok (.iaload, 1) := by decide +kernel
theorem dX8_cometAtRank_25 : decode cX8_cometAtRank 25 = .ok (.if_icmp .ge 27, 3) := by decide +kernel
theorem dX8_cometAtRank_28 : decode cX8_cometAtRank 28 = .ok (.iload_n 3, 1) := by decide +kernel
theorem dX8_cometAtRank_29 : decode cX8_cometAtRank 29 = .ok (.aload_n 0, 1) := by decide +kernel
theorem dX8_cometAtRank_30 : decode cX8_cometAtRank 30 = .ok (.iload 4, 2) := by decide +kernel
theorem dX8_cometAtRank_32 : decode cX8_cometAtRank 32 = .ok (.iload_n 2, 1) := by decide +kernel
theorem dX8_cometAtRank_33 : decode cX8_cometAtRank 33 = .ok (.invokevirtual 128, 3) := by decide +kernel
theorem dX8_cometAtRank_36 : decode cX8_cometAtRank 36 = .ok (.ifCond .eq 7, 3) := by decide +kernel
theorem dX8_cometAtRank_39 : decode cX8_cometAtRank 39 = .ok (.iconst 1, 1) := by decide +kernel
theorem dX8_cometAtRank_40 : decode cX8_cometAtRank 40 = .ok (.goto 4, 3) := by decide +kernel
theorem dX8_cometAtRank_43 : decode cX8_cometAtRank 43 = .ok (.iconst 0, 1) := by decide +kernel
theorem dX8_cometAtRank_44 : decode cX8_cometAtRank 44 = .ok (.iadd, 1) := by decide +kernel
theorem dX8_cometAtRank_45 : decode cX8_cometAtRank 45 = .ok (.istore_n 3, 1) := by decide +kernel
theorem dX8_cometAtRank_46 : decode cX8_cometAtRank 46 = .ok (.iinc 4 1, 3) := by decide +kernel
theorem dX8_cometAtRank_49 : decode cX8_cometAtRank 49 = .ok (.goto (-32), 3) := by decide +kernel
theorem dX8_cometAtRank_52 : decode cX8_cometAtRank 52 = .ok (.aload_n 0, 1) := by decide +kernel
theorem dX8_cometAtRank_53 : decode cX8_cometAtRank 53 = .ok (.iload_n 3, 1) := by decide +kernel
theorem dX8_cometAtRank_54 : decode cX8_cometAtRank 54 = .ok (.iload_n 1, 1) := by decide +kernel
theorem dX8_cometAtRank_55 : decode cX8_cometAtRank 55 = .ok (.if_icmp .ne 7, 3) := by decide +kernel
theorem dX8_cometAtRank_58 : decode cX8_cometAtRank 58 = .ok (.iconst 1, 1) := by decide +kernel
theorem dX8_cometAtRank_59 : decode cX8_cometAtRank 59 = .ok (.goto 4, 3) := by decide +kernel
theorem dX8_cometAtRank_62 : decode cX8_cometAtRank 62 = .ok (.iconst 0, 1) := by decide +kernel
theorem dX8_cometAtRank_63 : decode cX8_cometAtRank 63 = .ok (.invokevirtual 115, 3) := by decide +kernel
theorem dX8_cometAtRank_66 : decode cX8_cometAtRank 66 = .ok (.ifCond .eq 10, 3) := by decide +kernel
theorem dX8_cometAtRank_69 : decode cX8_cometAtRank 69 = .ok (.aload_n 0, 1) := by decide +kernel
theorem dX8_cometAtRank_70 : decode cX8_cometAtRank 70 = .ok (.iload_n 2, 1) := by decide +kernel
theorem dX8_cometAtRank_71 : decode cX8_cometAtRank 71 = .ok (.iconst 0, 1) := by decide +kernel
theorem dX8_cometAtRank_72 : decode cX8_cometAtRank 72 = .ok (.invokevirtual 49, 3) := by decide +kernel
theorem dX8_cometAtRank_75 : decode cX8_cometAtRank 75 = .ok (.ireturn, 1) := by decide +kernel
theorem dX8_cometAtRank_76 : decode cX8_cometAtRank 76 = .ok (.iinc 2 1, 3) := by decide +kernel
theorem dX8_cometAtRank_79 : decode cX8_cometAtRank 79 = .ok (.goto (-77), 3) := by decide +kernel
theorem dX8_cometAtRank_82 : decode cX8_cometAtRank 82 = .ok (.aload_n 0, 1) := by decide +kernel
theorem dX8_cometAtRank_83 : decode cX8_cometAtRank 83 = .ok (.iconst 1, 1) := by decide +kernel
theorem dX8_cometAtRank_84 : decode cX8_cometAtRank 84 = .ok (.putfield 36, 3) := by decide +kernel
theorem dX8_cometAtRank_87 : decode cX8_cometAtRank 87 = .ok (.iconst 0, 1) := by decide +kernel
theorem dX8_cometAtRank_88 : decode cX8_cometAtRank 88 = .ok (.ireturn, 1) := by decide +kernel
theorem dX8_brightIn_0 : decode cX8_brightIn 0 = .ok (.aload_n 0, 1) := by decide +kernel
theorem dX8_brightIn_1 : decode cX8_brightIn 1 = .ok (.getfield 9, 3) := by decide +kernel
theorem dX8_brightIn_4 : decode cX8_brightIn 4 = .ok (.iconst 2, 1) := by decide +kernel
theorem dX8_brightIn_5 : decode cX8_brightIn 5 = .ok (.iaload, 1) := by decide +kernel
theorem dX8_brightIn_6 : decode cX8_brightIn 6 = .ok (.iload_n 2, 1) := by decide +kernel
theorem dX8_brightIn_7 : decode cX8_brightIn 7 = .ok (.iadd, 1) := by decide +kernel
theorem dX8_brightIn_8 : decode cX8_brightIn 8 = .ok (.aload_n 0, 1) := by decide +kernel
theorem dX8_brightIn_9 : decode cX8_brightIn 9 = .ok (.iload_n 1, 1) := by decide +kernel
theorem dX8_brightIn_10 : decode cX8_brightIn 10 = .ok (.iconst 3, 1) := by decide +kernel
theorem dX8_brightIn_11 : decode cX8_brightIn 11 = .ok (.invokevirtual 49, 3) := by decide +kernel
theorem dX8_brightIn_14 : decode cX8_brightIn 14 = .ok (.isub, 1) := by decide +kernel
theorem dX8_brightIn_15 : decode cX8_brightIn 15 = .ok (.istore_n 3, 1) := by decide +kernel
theorem dX8_brightIn_16 : decode cX8_brightIn 16 = .ok (.iload_n 3, 1) := by decide +kernel
theorem dX8_brightIn_17 : decode cX8_brightIn 17 = .ok (.ifCond .lt 14, 3) := by decide +kernel
theorem dX8_brightIn_20 : decode cX8_brightIn 20 = .ok (.iload_n 3, 1) := by decide +kernel
theorem dX8_brightIn_21 : decode cX8_brightIn 21 = .ok (.aload_n 0, 1) := by decide +kernel
theorem dX8_brightIn_22 : decode cX8_brightIn 22 = .ok (.iload_n 1, 1) := by decide +kernel
theorem dX8_brightIn_23 : decode cX8_brightIn 23 = .ok (.iconst 1, 1) := by decide +kernel
theorem dX8_brightIn_24 : decode cX8_brightIn 24 = .ok (.invokevirtual 49, 3) := by decide +kernel
theorem dX8_brightIn_27 : decode cX8_brightIn 27 = .ok (.irem, 1) := by decide +kernel
theorem dX8_brightIn_28 : decode cX8_brightIn 28 = .ok (.ifCond .eq 5, 3) := by decide +kernel
theorem dX8_brightIn_31 : decode cX8_brightIn 31 = .ok (.iconst 0, 1) := by decide +kernel
theorem dX8_brightIn_32 : decode cX8_brightIn 32 = .ok (.ireturn, 1) := by decide +kernel
theorem dX8_brightIn_33 : decode cX8_brightIn 33 = .ok (.aload_n 0, 1) := by decide +kernel
theorem dX8_brightIn_34 : decode cX8_brightIn 34 = .ok (.iload_n 1, 1) := by decide +kernel
theorem dX8_brightIn_35 : decode cX8_brightIn 35 = .ok (.iconst 2, 1) := by decide +kernel
theorem dX8_brightIn_36 : decode cX8_brightIn 36 = .ok (.invokevirtual 49, 3) := by decide +kernel
theorem dX8_brightIn_39 : decode cX8_brightIn 39 = .ok (.iload_n 3, 1) := by decide +kernel
theorem dX8_brightIn_40 : decode cX8_brightIn 40 = .ok (.aload_n 0, 1) := by decide +kernel
theorem dX8_brightIn_41 : decode cX8_brightIn 41 = .ok (.iload_n 1, 1) := by decide +kernel
theorem dX8_brightIn_42 : decode cX8_brightIn 42 = .ok (.iconst 1, 1) := by decide +kernel
theorem dX8_brightIn_43 : decode cX8_brightIn 43 = .ok (.invokevirtual 49, 3) := by decide +kernel
theorem dX8_brightIn_46 : decode cX8_brightIn 46 = .ok (.idiv, 1) := by decide +kernel
theorem dX8_brightIn_47 : decode cX8_brightIn 47 = .ok (.isub, 1) := by decide +kernel
theorem dX8_brightIn_48 : decode cX8_brightIn 48 = .ok (.istore 4, 2) := by decide +kernel
theorem dX8_brightIn_50 : decode cX8_brightIn 50 = .ok (.iload 4, 2) := by decide +kernel
theorem dX8_brightIn_52 : decode cX8_brightIn 52 = .ok (.ifCond .ge 7, 3) := by decide +kernel
theorem dX8_brightIn_55 : decode cX8_brightIn 55 = .ok (.iconst 0, 1) := by decide +kernel
theorem dX8_brightIn_56 : decode cX8_brightIn 56 = .ok (.goto 5, 3) := by decide +kernel
theorem dX8_brightIn_59 : decode cX8_brightIn 59 = .ok (.iload 4, 2) := by decide +kernel
theorem dX8_brightIn_61 : decode cX8_brightIn 61 = .ok (.ireturn, 1) := by decide +kernel
theorem dX8_passesIn_0 : decode cX8_passesIn 0 = .ok (.iconst 0, 1) := by decide +kernel
theorem dX8_passesIn_1 : decode cX8_passesIn 1 = .ok (.istore_n 2, 1) := by decide +kernel
theorem dX8_passesIn_2 : decode cX8_passesIn 2 = .ok (.aload_n 0, 1) := by decide +kernel
theorem dX8_passesIn_3 : decode cX8_passesIn 3 = .ok (.iload_n 1, 1) := by decide +kernel
theorem dX8_passesIn_4 : decode cX8_passesIn 4 = .ok (.iconst 0, 1) := by decide +kernel
theorem dX8_passesIn_5 : decode cX8_passesIn 5 = .ok (.bipush 60, 2) := by decide +kernel
theorem dX8_passesIn_7 : decode cX8_passesIn 7 = .ok (.invokestatic 69, 3) := by decide +kernel
theorem dX8_passesIn_10 : decode cX8_passesIn 10 = .ok (.invokevirtual 115, 3) := by decide +kernel
theorem dX8_passesIn_13 : decode cX8_passesIn 13 = .ok (.istore_n 3, 1) := by decide +kernel
theorem dX8_passesIn_14 : decode cX8_passesIn 14 = .ok (.iconst 1, 1) := by decide +kernel
theorem dX8_passesIn_15 : decode cX8_passesIn 15 = .ok (.istore 4, 2) := by decide +kernel
theorem dX8_passesIn_17 : decode cX8_passesIn 17 = .ok (.iload 4, 2) := by decide +kernel
theorem dX8_passesIn_19 : decode cX8_passesIn 19 = .ok (.iload_n 1, 1) := by decide +kernel
theorem dX8_passesIn_20 : decode cX8_passesIn 20 = .ok (.if_icmp .gt 52, 3) := by decide +kernel
theorem dX8_passesIn_23 : decode cX8_passesIn 23 = .ok (.iload_n 3, 1) := by decide +kernel
theorem dX8_passesIn_24 : decode cX8_passesIn 24 = .ok (.ifCond .eq 48, 3) := by decide +kernel
theorem dX8_passesIn_27 : decode cX8_passesIn 27 = .ok (.iconst 0, 1) := by decide +kernel
theorem dX8_passesIn_28 : decode cX8_passesIn 28 = .ok (.istore 5, 2) := by decide +kernel
theorem dX8_passesIn_30 : decode cX8_passesIn 30 = .ok (.iload 5, 2) := by decide +kernel
theorem dX8_passesIn_32 : decode cX8_passesIn 32 = .ok (.aload_n 0, 1) := by decide +kernel
theorem dX8_passesIn_33 : decode cX8_passesIn 33 = .ok (.getfield 9, 3) := by decide +kernel
theorem dX8_passesIn_36 : decode cX8_passesIn 36 = .ok (.iconst 0, 1) := by decide +kernel
theorem dX8_passesIn_37 : decode cX8_passesIn 37 = .ok (.iaload, 1) := by decide +kernel
theorem dX8_passesIn_38 : decode cX8_passesIn 38 = .ok (.if_icmp .ge 28, 3) := by decide +kernel
theorem dX8_passesIn_41 : decode cX8_passesIn 41 = .ok (.iload_n 2, 1) := by decide +kernel
theorem dX8_passesIn_42 : decode cX8_passesIn 42 = .ok (.aload_n 0, 1) := by decide +kernel
theorem dX8_passesIn_43 : decode cX8_passesIn 43 = .ok (.iload 5, 2) := by decide +kernel
theorem dX8_passesIn_45 : decode cX8_passesIn 45 = .ok (.iload 4, 2) := by decide +kernel
theorem dX8_passesIn_47 : decode cX8_passesIn 47 = .ok (.invokevirtual 132, 3) := by decide +kernel
theorem dX8_passesIn_50 : decode cX8_passesIn 50 = .ok (.ifCond .le 7, 3) := by decide +kernel
theorem dX8_passesIn_53 : decode cX8_passesIn 53 = .ok (.iconst 1, 1) := by decide +kernel
theorem dX8_passesIn_54 : decode cX8_passesIn 54 = .ok (.goto 4, 3) := by decide +kernel
theorem dX8_passesIn_57 : decode cX8_passesIn 57 = .ok (.iconst 0, 1) := by decide +kernel
theorem dX8_passesIn_58 : decode cX8_passesIn 58 = .ok (.iadd, 1) := by decide +kernel
theorem dX8_passesIn_59 : decode cX8_passesIn 59 = .ok (.istore_n 2, 1) := by decide +kernel
theorem dX8_passesIn_60 : decode cX8_passesIn 60 = .ok (.iinc 5 1, 3) := by decide +kernel
theorem dX8_passesIn_63 : decode cX8_passesIn 63 = .ok (.goto (-33), 3) := by decide +kernel
theorem dX8_passesIn_66 : decode cX8_passesIn 66 = .ok (.iinc 4 1, 3) := by decide +kernel
theorem dX8_passesIn_69 : decode cX8_passesIn 69 = .ok (.goto (-52), 3) := by decide +kernel
theorem dX8_passesIn_72 : decode cX8_passesIn 72 = .ok (.iload_n 2, 1) := by decide +kernel
theorem dX8_passesIn_73 : decode cX8_passesIn 73 = .ok (.ireturn, 1) := by decide +kernel
theorem dX8_passesOn_0 : decode cX8_passesOn 0 = .ok (.iload_n 2, 1) := by decide +kernel
theorem dX8_passesOn_1 : decode cX8_passesOn 1 = .ok (.aload_n 0, 1) := by decide +kernel
theorem dX8_passesOn_2 : decode cX8_passesOn 2 = .ok (.iload_n 1, 1) := by decide +kernel
theorem dX8_passesOn_3 : decode cX8_passesOn 3 = .ok (.iconst 3, 1) := by decide +kernel
theorem dX8_passesOn_4 : decode cX8_passesOn 4 = .ok (.invokevirtual 49, 3) := by decide +kernel
theorem dX8_passesOn_7 : decode cX8_passesOn 7 = .ok (.if_icmp .lt 25, 3) := by decide +kernel
theorem dX8_passesOn_10 : decode cX8_passesOn 10 = .ok (.iload_n 2, 1) := by decide +kernel
theorem dX8_passesOn_11 : decode cX8_passesOn 11 = .ok (.aload_n 0, 1) := by decide +kernel
theorem dX8_passesOn_12 : decode cX8_passesOn 12 = .ok (.iload_n 1, 1) := by decide +kernel
theorem dX8_passesOn_13 : decode cX8_passesOn 13 = .ok (.iconst 3, 1) := by decide +kernel
theorem dX8_passesOn_14 : decode cX8_passesOn 14 = .ok (.invokevirtual 49, 3) := by decide +kernel
theorem dX8_passesOn_17 : decode cX8_passesOn 17 = .ok (.isub, 1) := by decide +kernel
theorem dX8_passesOn_18 : decode cX8_passesOn 18 = .ok (.aload_n 0, 1) := by decide +kernel
theorem dX8_passesOn_19 : decode cX8_passesOn 19 = .ok (.iload_n 1, 1) := by decide +kernel
theorem dX8_passesOn_20 : decode cX8_passesOn 20 = .ok (.iconst 1, 1) := by decide +kernel
theorem dX8_passesOn_21 : decode cX8_passesOn 21 = .ok (.invokevirtual 49, 3) := by decide +kernel
theorem dX8_passesOn_24 : decode cX8_passesOn 24 = .ok (.irem, 1) := by decide +kernel
theorem dX8_passesOn_25 : decode cX8_passesOn 25 = .ok (.ifCond .ne 7, 3) := by decide +kernel
theorem dX8_passesOn_28 : decode cX8_passesOn 28 = .ok (.iconst 1, 1) := by decide +kernel
theorem dX8_passesOn_29 : decode cX8_passesOn 29 = .ok (.goto 4, 3) := by decide +kernel
theorem dX8_passesOn_32 : decode cX8_passesOn 32 = .ok (.iconst 0, 1) := by decide +kernel
theorem dX8_passesOn_33 : decode cX8_passesOn 33 = .ok (.ireturn, 1) := by decide +kernel
theorem dX8_nextMeeting_0 : decode cX8_nextMeeting 0 = .ok (.aload_n 0, 1) := by decide +kernel
theorem dX8_nextMeeting_1 : decode cX8_nextMeeting 1 = .ok (.aload_n 0, 1) := by decide +kernel
theorem dX8_nextMeeting_2 : decode cX8_nextMeeting 2 = .ok (.iload_n 1, 1) := by decide +kernel
theorem dX8_nextMeeting_3 : decode cX8_nextMeeting 3 = .ok (.invokevirtual 84, 3) := by decide +kernel
theorem dX8_nextMeeting_6 : decode cX8_nextMeeting 6 = .ok (.ifCond .eq 11, 3) := by decide +kernel
theorem dX8_nextMeeting_9 : decode cX8_nextMeeting 9 = .ok (.aload_n 0, 1) := by decide +kernel
theorem dX8_nextMeeting_10 : decode cX8_nextMeeting 10 = .ok (.iload_n 2, 1) := by decide +kernel
theorem dX8_nextMeeting_11 : decode cX8_nextMeeting 11 = .ok (.invokevirtual 84, 3) := by decide +kernel
theorem dX8_nextMeeting_14 : decode cX8_nextMeeting 14 = .ok (.ifCond .ne 7, 3) := by decide +kernel
theorem dX8_nextMeeting_17 : decode cX8_nextMeeting 17 = .ok (.iconst 1, 1) := by decide +kernel
theorem dX8_nextMeeting_18 : decode cX8_nextMeeting 18 = .ok (.goto 13, 3) := by decide +kernel
theorem dX8_nextMeeting_21 : decode cX8_nextMeeting 21 = .ok (.iload_n 1, 1) := by decide +kernel
theorem dX8_nextMeeting_22 : decode cX8_nextMeeting 22 = .ok (.iload_n 2, 1) := by decide +kernel
theorem dX8_nextMeeting_23 : decode cX8_nextMeeting 23 = .ok (.if_icmp .ne 7, 3) := by decide +kernel
theorem dX8_nextMeeting_26 : decode cX8_nextMeeting 26 = .ok (.iconst 2, 1) := by decide +kernel
theorem dX8_nextMeeting_27 : decode cX8_nextMeeting 27 = .ok (.goto 4, 3) := by decide +kernel
theorem dX8_nextMeeting_30 : decode cX8_nextMeeting 30 = .ok (.iconst 0, 1) := by decide +kernel
theorem dX8_nextMeeting_31 : decode cX8_nextMeeting 31 = .ok (.putfield 36, 3) := by decide +kernel
theorem dX8_nextMeeting_34 : decode cX8_nextMeeting 34 = .ok (.aload_n 0, 1) := by decide +kernel
theorem dX8_nextMeeting_35 : decode cX8_nextMeeting 35 = .ok (.getfield 36, 3) := by decide +kernel
theorem dX8_nextMeeting_38 : decode cX8_nextMeeting 38 = .ok (.ifCond .eq 5, 3) := by decide +kernel
theorem dX8_nextMeeting_41 : decode cX8_nextMeeting 41 = .ok (.iconst 0, 1) := by decide +kernel
theorem dX8_nextMeeting_42 : decode cX8_nextMeeting 42 = .ok (.ireturn, 1) := by decide +kernel
theorem dX8_nextMeeting_43 : decode cX8_nextMeeting 43 = .ok (.aload_n 0, 1) := by decide +kernel
theorem dX8_nextMeeting_44 : decode cX8_nextMeeting 44 = .ok (.iload_n 1, 1) := by decide +kernel
theorem dX8_nextMeeting_45 : decode cX8_nextMeeting 45 = .ok (.invokevirtual 53, 3) := by decide +kernel
theorem dX8_nextMeeting_48 : decode cX8_nextMeeting 48 = .ok (.istore_n 3, 1) := by decide +kernel
theorem dX8_nextMeeting_49 : decode cX8_nextMeeting 49 = .ok (.aload_n 0, 1) := by decide +kernel
theorem dX8_nextMeeting_50 : decode cX8_nextMeeting 50 = .ok (.iload_n 2, 1) := by decide +kernel
theorem dX8_nextMeeting_51 : decode cX8_nextMeeting 51 = .ok (.invokevirtual 53, 3) := by decide +kernel
theorem dX8_nextMeeting_54 : decode cX8_nextMeeting 54 = .ok (.istore 4, 2) := by decide +kernel
theorem dX8_nextMeeting_56 : decode cX8_nextMeeting 56 = .ok (.aload_n 0, 1) := by decide +kernel
theorem dX8_nextMeeting_57 : decode cX8_nextMeeting 57 = .ok (.iload_n 3, 1) := by decide +kernel
theorem dX8_nextMeeting_58 : decode cX8_nextMeeting 58 = .ok (.iconst 3, 1) := by decide +kernel
theorem dX8_nextMeeting_59 : decode cX8_nextMeeting 59 = .ok (.invokevirtual 49, 3) := by decide +kernel
theorem dX8_nextMeeting_62 : decode cX8_nextMeeting 62 = .ok (.istore 5, 2) := by decide +kernel
theorem dX8_nextMeeting_64 : decode cX8_nextMeeting 64 = .ok (.iload 5, 2) := by decide +kernel
theorem dX8_nextMeeting_66 : decode cX8_nextMeeting 66 = .ok (.aload_n 0, 1) := by decide +kernel
theorem dX8_nextMeeting_67 : decode cX8_nextMeeting 67 = .ok (.iload 4, 2) := by decide +kernel
theorem dX8_nextMeeting_69 : decode cX8_nextMeeting 69 = .ok (.iconst 3, 1) := by decide +kernel
theorem dX8_nextMeeting_70 : decode cX8_nextMeeting 70 = .ok (.invokevirtual 49, 3) := by decide +kernel
theorem dX8_nextMeeting_73 : decode cX8_nextMeeting 73 = .ok (.iadd, 1) := by decide +kernel
theorem dX8_nextMeeting_74 : decode cX8_nextMeeting 74 = .ok (.aload_n 0, 1) := by decide +kernel
theorem dX8_nextMeeting_75 : decode cX8_nextMeeting 75 = .ok (.iload_n 3, 1) := by decide +kernel
theorem dX8_nextMeeting_76 : decode cX8_nextMeeting 76 = .ok (.iconst 1, 1) := by decide +kernel
theorem dX8_nextMeeting_77 : decode cX8_nextMeeting 77 = .ok (.invokevirtual 49, 3) := by decide +kernel
theorem dX8_nextMeeting_80 : decode cX8_nextMeeting 80 = .ok (.aload_n 0, 1) := by decide +kernel
theorem dX8_nextMeeting_81 : decode cX8_nextMeeting 81 = .ok (.iload 4, 2) := by decide +kernel
theorem dX8_nextMeeting_83 : decode cX8_nextMeeting 83 = .ok (.iconst 1, 1) := by decide +kernel
theorem dX8_nextMeeting_84 : decode cX8_nextMeeting 84 = .ok (.invokevirtual 49, 3) := by decide +kernel
theorem dX8_nextMeeting_87 : decode cX8_nextMeeting 87 = .ok (.imul, 1) := by decide +kernel
theorem dX8_nextMeeting_88 : decode cX8_nextMeeting 88 = .ok (.iadd, 1) := by decide +kernel
theorem dX8_nextMeeting_89 : decode cX8_nextMeeting 89 = .ok (.istore 6, 2) := by decide +kernel
theorem dX8_nextMeeting_91 : decode cX8_nextMeeting 91 = .ok (.iload 5, 2) := by decide +kernel
theorem dX8_nextMeeting_93 : decode cX8_nextMeeting 93 = .ok (.iload 6, 2) := by decide +kernel
theorem dX8_nextMeeting_95 : decode cX8_nextMeeting 95 = .ok (.if_icmp .gt 28, 3) := by decide +kernel
theorem dX8_nextMeeting_98 : decode cX8_nextMeeting 98 = .ok (.aload_n 0, 1) := by decide +kernel
theorem dX8_nextMeeting_99 : decode cX8_nextMeeting 99 = .ok (.iload 4, 2) := by decide +kernel
theorem dX8_nextMeeting_101 : decode cX8_nextMeeting 101 = .ok (.iload 5, 2) := by decide +kernel
theorem dX8_nextMeeting_103 : decode cX8_nextMeeting 103 = .ok (.invokevirtual 135, 3) := by decide +kernel
theorem dX8_nextMeeting_106 : decode cX8_nextMeeting 106 = .ok (.ifCond .ne 17, 3) := by decide +kernel
theorem dX8_nextMeeting_109 : decode cX8_nextMeeting 109 = .ok (.iload 5, 2) := by decide +kernel
theorem dX8_nextMeeting_111 : decode cX8_nextMeeting 111 = .ok (.aload_n 0, 1) := by decide +kernel
theorem dX8_nextMeeting_112 : decode cX8_nextMeeting 112 = .ok (.iload_n 3, 1) := by decide +kernel
theorem dX8_nextMeeting_113 : decode cX8_nextMeeting 113 = .ok (.iconst 1, 1) := by decide +kernel
theorem dX8_nextMeeting_114 : decode cX8_nextMeeting 114 = .ok (.invokevirtual 49, 3) := by decide +kernel
theorem dX8_nextMeeting_117 : decode cX8_nextMeeting 117 = .ok (.iadd, 1) := by decide +kernel
theorem dX8_nextMeeting_118 : decode cX8_nextMeeting 118 = .ok (.istore 5, 2) := by decide +kernel
theorem dX8_nextMeeting_120 : decode cX8_nextMeeting 120 = .ok (.goto (-29), 3) := by decide +kernel
theorem dX8_nextMeeting_123 : decode cX8_nextMeeting 123 = .ok (.aload_n 0, 1) := by decide +kernel
theorem dX8_nextMeeting_124 : decode cX8_nextMeeting 124 = .ok (.iload 5, 2) := by decide +kernel
theorem dX8_nextMeeting_126 : decode cX8_nextMeeting 126 = .ok (.iload 6, 2) := by decide +kernel
theorem dX8_nextMeeting_128 : decode cX8_nextMeeting 128 = .ok (.if_icmp .gt 7, 3) := by decide +kernel
theorem dX8_nextMeeting_131 : decode cX8_nextMeeting 131 = .ok (.iconst 0, 1) := by decide +kernel
theorem dX8_nextMeeting_132 : decode cX8_nextMeeting 132 = .ok (.goto 4, 3) := by decide +kernel
theorem dX8_nextMeeting_135 : decode cX8_nextMeeting 135 = .ok (.iconst 3, 1) := by decide +kernel
theorem dX8_nextMeeting_136 : decode cX8_nextMeeting 136 = .ok (.putfield 36, 3) := by decide +kernel
theorem dX8_nextMeeting_139 : decode cX8_nextMeeting 139 = .ok (.aload_n 0, 1) := by decide +kernel
theorem dX8_nextMeeting_140 : decode cX8_nextMeeting 140 = .ok (.getfield 36, 3) := by decide +kernel
theorem dX8_nextMeeting_143 : decode cX8_nextMeeting 143 = .ok (.ifCond .ne 8, 3) := by decide +kernel
theorem dX8_nextMeeting_146 : decode cX8_nextMeeting 146 = .ok (.iload 5, 2) := by decide +kernel
theorem dX8_nextMeeting_148 : decode cX8_nextMeeting 148 = .ok (.goto 4, 3) := by decide +kernel
theorem dX8_nextMeeting_151 : decode cX8_nextMeeting 151 = .ok (.iconst 0, 1) := by decide +kernel
theorem dX8_nextMeeting_152 : decode cX8_nextMeeting 152 = .ok (.ireturn, 1) := by decide +kernel
theorem dX8_nextMeetingByRemainders_0 : decode cX8_nextMeetingByRemainders 0 = .ok (.aload_n 0, 1) := by decide +kernel
theorem dX8_nextMeetingByRemainders_1 : decode cX8_nextMeetingByRemainders 1 = .ok (.iload_n 1, 1) := by decide +kernel
theorem dX8_nextMeetingByRemainders_2 : decode cX8_nextMeetingByRemainders 2 = .ok (.iload_n 2, 1) := by decide +kernel
theorem dX8_nextMeetingByRemainders_3 : decode cX8_nextMeetingByRemainders 3 = .ok (.invokevirtual 138, 3) := by decide +kernel
theorem dX8_nextMeetingByRemainders_6 : decode cX8_nextMeetingByRemainders 6 = .ok (.ireturn, 1) := by decide +kernel
theorem dX8_alignment_0 : decode cX8_alignment 0 = .ok (.lconst 1, 1) := by decide +kernel
theorem dX8_alignment_1 : decode cX8_alignment 1 = .ok (.lstore_n 1, 1) := by decide +kernel
theorem dX8_alignment_2 : decode cX8_alignment 2 = .ok (.iconst 0, 1) := by decide +kernel
theorem dX8_alignment_3 : decode cX8_alignment 3 = .ok (.istore_n 3, 1) := by decide +kernel
theorem dX8_alignment_4 : decode cX8_alignment 4 = .ok (.iload_n 3, 1) := by decide +kernel
theorem dX8_alignment_5 : decode cX8_alignment 5 = .ok (.aload_n 0, 1) := by decide +kernel
theorem dX8_alignment_6 : decode cX8_alignment 6 = .ok (.getfield 9, 3) := by decide +kernel
theorem dX8_alignment_9 : decode cX8_alignment 9 = .ok (.iconst 0, 1) := by decide +kernel
theorem dX8_alignment_10 : decode cX8_alignment 10 = .ok (.iaload, 1) := by decide +kernel
theorem dX8_alignment_11 : decode cX8_alignment 11 = .ok (.if_icmp .ge 34, 3) := by decide +kernel
theorem dX8_alignment_14 : decode cX8_alignment 14 = .ok (.lload_n 1, 1) := by decide +kernel
theorem dX8_alignment_15 : decode cX8_alignment 15 = .ok (.lstore 4, 2) := by decide +kernel
theorem dX8_alignment_17 : decode cX8_alignment 17 = .ok (.lload_n 1, 1) := by decide +kernel
theorem dX8_alignment_18 : decode cX8_alignment 18 = .ok (.aload_n 0, 1) := by decide +kernel
theorem dX8_alignment_19 : decode cX8_alignment 19 = .ok (.iload_n 3, 1) := by decide +kernel
theorem dX8_alignment_20 : decode cX8_alignment 20 = .ok (.iconst 1, 1) := by decide +kernel
theorem dX8_alignment_21 : decode cX8_alignment 21 = .ok (.invokevirtual 49, 3) := by decide +kernel
theorem dX8_alignment_24 : decode cX8_alignment 24 = .ok (.i2l, 1) := by decide +kernel
theorem dX8_alignment_25 : decode cX8_alignment 25 = .ok (.lrem, 1) := by decide +kernel
theorem dX8_alignment_26 : decode cX8_alignment 26 = .ok (.lconst 0, 1) := by decide +kernel
theorem dX8_alignment_27 : decode cX8_alignment 27 = .ok (.lcmp, 1) := by decide +kernel
theorem dX8_alignment_28 : decode cX8_alignment 28 = .ok (.ifCond .eq 11, 3) := by decide +kernel
theorem dX8_alignment_31 : decode cX8_alignment 31 = .ok (.lload_n 1, 1) := by decide +kernel
theorem dX8_alignment_32 : decode cX8_alignment 32 = .ok (.lload 4, 2) := by decide +kernel
theorem dX8_alignment_34 : decode cX8_alignment 34 = .ok (.ladd, 1) := by decide +kernel
theorem dX8_alignment_35 : decode cX8_alignment 35 = .ok (.lstore_n 1, 1) := by decide +kernel
theorem dX8_alignment_36 : decode cX8_alignment 36 = .ok (.goto (-19), 3) := by decide +kernel
theorem dX8_alignment_39 : decode cX8_alignment 39 = .ok (.iinc 3 1, 3) := by decide +kernel
theorem dX8_alignment_42 : decode cX8_alignment 42 = .ok (.goto (-38), 3) := by decide +kernel
theorem dX8_alignment_45 : decode cX8_alignment 45 = .ok (.aload_n 0, 1) := by decide +kernel
theorem dX8_alignment_46 : decode cX8_alignment 46 = .ok (.aload_n 0, 1) := by decide +kernel
theorem dX8_alignment_47 : decode cX8_alignment 47 = .ok (.getfield 9, 3) := by decide +kernel
theorem dX8_alignment_50 : decode cX8_alignment 50 = .ok (.iconst 0, 1) := by decide +kernel
theorem dX8_alignment_51 : decode cX8_alignment 51 = .ok (.iaload, 1) := by decide +kernel
theorem dX8_alignment_52 : decode cX8_alignment 52 = .ok (.ifCond .le 7, 3) := by decide +kernel
theorem dX8_alignment_55 : decode cX8_alignment 55 = .ok (.iconst 1, 1) := by decide +kernel
theorem dX8_alignment_56 : decode cX8_alignment 56 = .ok (.goto 4, 3) := by decide +kernel
theorem dX8_alignment_59 : decode cX8_alignment 59 = .ok (.iconst 0, 1) := by decide +kernel
theorem dX8_alignment_60 : decode cX8_alignment 60 = .ok (.invokevirtual 115, 3) := by decide +kernel
theorem dX8_alignment_63 : decode cX8_alignment 63 = .ok (.ifCond .eq 7, 3) := by decide +kernel
theorem dX8_alignment_66 : decode cX8_alignment 66 = .ok (.lload_n 1, 1) := by decide +kernel
theorem dX8_alignment_67 : decode cX8_alignment 67 = .ok (.goto 4, 3) := by decide +kernel
theorem dX8_alignment_70 : decode cX8_alignment 70 = .ok (.lconst 0, 1) := by decide +kernel
theorem dX8_alignment_71 : decode cX8_alignment 71 = .ok (.lreturn, 1) := by decide +kernel
theorem dX8_plans_0 : decode cX8_plans 0 = .ok (.aload_n 0, 1) := by decide +kernel
theorem dX8_plans_1 : decode cX8_plans 1 = .ok (.getfield 13, 3) := by decide +kernel
theorem dX8_plans_4 : decode cX8_plans 4 = .ok (.iload_n 1, 1) := by decide +kernel
theorem dX8_plans_5 : decode cX8_plans 5 = .ok (.iconst 1, 1) := by decide +kernel
theorem dX8_plans_6 : decode cX8_plans 6 = .ok (.iadd, 1) := by decide +kernel
theorem dX8_plans_7 : decode cX8_plans 7 = .ok (.iconst 0, 1) := by decide +kernel
theorem dX8_plans_8 : decode cX8_plans 8 = .ok (.iastore, 1) := by decide +kernel
theorem dX8_plans_9 : decode cX8_plans 9 = .ok (.aload_n 0, 1) := by decide +kernel
theorem dX8_plans_10 : decode cX8_plans 10 = .ok (.getfield 16, 3) := by decide +kernel
theorem dX8_plans_13 : decode cX8_plans 13 = .ok (.iload_n 1, 1) := by decide +kernel
theorem dX8_plans_14 : decode cX8_plans 14 = .ok (.iconst 1, 1) := by decide +kernel
theorem dX8_plans_15 : decode cX8_plans 15 = .ok (.iadd, 1) := by decide +kernel
theorem dX8_plans_16 : decode cX8_plans 16 = .ok (.iconst 0, 1) := by decide +kernel
theorem dX8_plans_17 : decode cX8_plans 17 = .ok (.iastore, 1) := by decide +kernel
theorem dX8_plans_18 : decode cX8_plans 18 = .ok (.iload_n 1, 1) := by decide +kernel
theorem dX8_plans_19 : decode cX8_plans 19 = .ok (.istore_n 2, 1) := by decide +kernel
theorem dX8_plans_20 : decode cX8_plans 20 = .ok (.iload_n 2, 1) := by decide +kernel
theorem dX8_plans_21 : decode cX8_plans 21 = .ok (.iconst 1, 1) := by decide +kernel
theorem dX8_plans_22 : decode cX8_plans 22 = .ok (.if_icmp .lt 67, 3) := by decide +kernel
theorem dX8_plans_25 : decode cX8_plans 25 = .ok (.aload_n 0, 1) := by decide +kernel
theorem dX8_plans_26 : decode cX8_plans 26 = .ok (.getfield 13, 3) := by decide +kernel
theorem dX8_plans_29 : decode cX8_plans 29 = .ok (.iload_n 2, 1) := by decide +kernel
theorem dX8_plans_30 : decode cX8_plans 30 = .ok (.aload_n 0, 1) := by decide +kernel
theorem dX8_plans_31 : decode cX8_plans 31 = .ok (.getfield 13, 3) := by decide +kernel
theorem dX8_plans_34 : decode cX8_plans 34 = .ok (.iload_n 2, 1) := by decide +kernel
theorem dX8_plans_35 : decode cX8_plans 35 = .ok (.iconst 1, 1) := by decide +kernel
theorem dX8_plans_36 : decode cX8_plans 36 = .ok (.iadd, 1) := by decide +kernel
theorem dX8_plans_37 : decode cX8_plans 37 = .ok (.iaload, 1) := by decide +kernel
theorem dX8_plans_38 : decode cX8_plans 38 = .ok (.iastore, 1) := by decide +kernel
theorem dX8_plans_39 : decode cX8_plans 39 = .ok (.aload_n 0, 1) := by decide +kernel
theorem dX8_plans_40 : decode cX8_plans 40 = .ok (.getfield 16, 3) := by decide +kernel
theorem dX8_plans_43 : decode cX8_plans 43 = .ok (.iload_n 2, 1) := by decide +kernel
theorem dX8_plans_44 : decode cX8_plans 44 = .ok (.aload_n 0, 1) := by decide +kernel
theorem dX8_plans_45 : decode cX8_plans 45 = .ok (.getfield 16, 3) := by decide +kernel
theorem dX8_plans_48 : decode cX8_plans 48 = .ok (.iload_n 2, 1) := by decide +kernel
theorem dX8_plans_49 : decode cX8_plans 49 = .ok (.iconst 1, 1) := by decide +kernel
theorem dX8_plans_50 : decode cX8_plans 50 = .ok (.iadd, 1) := by decide +kernel
theorem dX8_plans_51 : decode cX8_plans 51 = .ok (.iaload, 1) := by decide +kernel
theorem dX8_plans_52 : decode cX8_plans 52 = .ok (.iastore, 1) := by decide +kernel
theorem dX8_plans_53 : decode cX8_plans 53 = .ok (.iconst 0, 1) := by decide +kernel
theorem dX8_plans_54 : decode cX8_plans 54 = .ok (.istore_n 3, 1) := by decide +kernel
theorem dX8_plans_55 : decode cX8_plans 55 = .ok (.iload_n 3, 1) := by decide +kernel
theorem dX8_plans_56 : decode cX8_plans 56 = .ok (.aload_n 0, 1) := by decide +kernel
theorem dX8_plans_57 : decode cX8_plans 57 = .ok (.getfield 9, 3) := by decide +kernel
theorem dX8_plans_60 : decode cX8_plans 60 = .ok (.iconst 0, 1) := by decide +kernel
theorem dX8_plans_61 : decode cX8_plans 61 = .ok (.iaload, 1) := by decide +kernel
theorem dX8_plans_62 : decode cX8_plans 62 = .ok (.if_icmp .ge 21, 3) := by decide +kernel
theorem dX8_plans_65 : decode cX8_plans 65 = .ok (.aload_n 0, 1) := by decide +kernel
theorem dX8_plans_66 : decode cX8_plans 66 = .ok (.aload_n 0, 1) := by decide +kernel
theorem dX8_plans_67 : decode cX8_plans 67 = .ok (.iload_n 3, 1) := by decide +kernel
theorem dX8_plans_68 : decode cX8_plans 68 = .ok (.iload_n 2, 1) := by decide +kernel
theorem dX8_plans_69 : decode cX8_plans 69 = .ok (.invokevirtual 132, 3) := by decide +kernel
theorem dX8_plans_72 : decode cX8_plans 72 = .ok (.iload_n 2, 1) := by decide +kernel
theorem dX8_plans_73 : decode cX8_plans 73 = .ok (.iload_n 1, 1) := by decide +kernel
theorem dX8_plans_74 : decode cX8_plans 74 = .ok (.invokevirtual 141, 3) := by decide +kernel
theorem dX8_plans_77 : decode cX8_plans 77 = .ok (.iinc 3 1, 3) := by decide +kernel
theorem dX8_plans_80 : decode cX8_plans 80 = .ok (.goto (-25), 3) := by decide +kernel
theorem dX8_plans_83 : decode cX8_plans 83 = .ok (.iinc 2 (-1), 3) := by decide +kernel
theorem dX8_plans_86 : decode cX8_plans 86 = .ok (.goto (-66), 3) := by decide +kernel
theorem dX8_plans_89 : decode cX8_plans 89 = .ok (.return_, 1) := by decide +kernel
theorem dX8_follows_0 : decode cX8_follows 0 = .ok (.iload_n 2, 1) := by decide +kernel
theorem dX8_follows_1 : decode cX8_follows 1 = .ok (.iload_n 1, 1) := by decide +kernel
theorem dX8_follows_2 : decode cX8_follows 2 = .ok (.invokestatic 125, 3) := by decide +kernel
theorem dX8_follows_5 : decode cX8_follows 5 = .ok (.iadd, 1) := by decide +kernel
theorem dX8_follows_6 : decode cX8_follows 6 = .ok (.istore 4, 2) := by decide +kernel
theorem dX8_follows_8 : decode cX8_follows 8 = .ok (.iload_n 1, 1) := by decide +kernel
theorem dX8_follows_9 : decode cX8_follows 9 = .ok (.ifCond .eq 11, 3) := by decide +kernel
theorem dX8_follows_12 : decode cX8_follows 12 = .ok (.iload 4, 2) := by decide +kernel
theorem dX8_follows_14 : decode cX8_follows 14 = .ok (.iload_n 3, 1) := by decide +kernel
theorem dX8_follows_15 : decode cX8_follows 15 = .ok (.iconst 1, 1) := by decide +kernel
theorem dX8_follows_16 : decode cX8_follows 16 = .ok (.iadd, 1) := by decide +kernel
theorem dX8_follows_17 : decode cX8_follows 17 = .ok (.if_icmp .le 4, 3) := by decide +kernel
theorem dX8_follows_20 : decode cX8_follows 20 = .ok (.return_, 1) := by decide +kernel
theorem dX8_follows_21 : decode cX8_follows 21 = .ok (.iload_n 1, 1) := by decide +kernel
theorem dX8_follows_22 : decode cX8_follows 22 = .ok (.aload_n 0, 1) := by decide +kernel
theorem dX8_follows_23 : decode cX8_follows 23 = .ok (.getfield 13, 3) := by decide +kernel
theorem dX8_follows_26 : decode cX8_follows 26 = .ok (.iload 4, 2) := by decide +kernel
theorem dX8_follows_28 : decode cX8_follows 28 = .ok (.iaload, 1) := by decide +kernel
theorem dX8_follows_29 : decode cX8_follows 29 = .ok (.iadd, 1) := by decide +kernel
theorem dX8_follows_30 : decode cX8_follows 30 = .ok (.istore 5, 2) := by decide +kernel
theorem dX8_follows_32 : decode cX8_follows 32 = .ok (.iconst 1, 1) := by decide +kernel
theorem dX8_follows_33 : decode cX8_follows 33 = .ok (.aload_n 0, 1) := by decide +kernel
theorem dX8_follows_34 : decode cX8_follows 34 = .ok (.getfield 16, 3) := by decide +kernel
theorem dX8_follows_37 : decode cX8_follows 37 = .ok (.iload 4, 2) := by decide +kernel
theorem dX8_follows_39 : decode cX8_follows 39 = .ok (.iaload, 1) := by decide +kernel
theorem dX8_follows_40 : decode cX8_follows 40 = .ok (.iadd, 1) := by decide +kernel
theorem dX8_follows_41 : decode cX8_follows 41 = .ok (.istore 6, 2) := by decide +kernel
theorem dX8_follows_43 : decode cX8_follows 43 = .ok (.iload 5, 2) := by decide +kernel
theorem dX8_follows_45 : decode cX8_follows 45 = .ok (.aload_n 0, 1) := by decide +kernel
theorem dX8_follows_46 : decode cX8_follows 46 = .ok (.getfield 13, 3) := by decide +kernel
theorem dX8_follows_49 : decode cX8_follows 49 = .ok (.iload_n 2, 1) := by decide +kernel
theorem dX8_follows_50 : decode cX8_follows 50 = .ok (.iaload, 1) := by decide +kernel
theorem dX8_follows_51 : decode cX8_follows 51 = .ok (.if_icmp .lt 25, 3) := by decide +kernel
theorem dX8_follows_54 : decode cX8_follows 54 = .ok (.iload 5, 2) := by decide +kernel
theorem dX8_follows_56 : decode cX8_follows 56 = .ok (.aload_n 0, 1) := by decide +kernel
theorem dX8_follows_57 : decode cX8_follows 57 = .ok (.getfield 13, 3) := by decide +kernel
theorem dX8_follows_60 : decode cX8_follows 60 = .ok (.iload_n 2, 1) := by decide +kernel
theorem dX8_follows_61 : decode cX8_follows 61 = .ok (.iaload, 1) := by decide +kernel
theorem dX8_follows_62 : decode cX8_follows 62 = .ok (.if_icmp .ne 15, 3) := by decide +kernel
theorem dX8_follows_65 : decode cX8_follows 65 = .ok (.iload 6, 2) := by decide +kernel
theorem dX8_follows_67 : decode cX8_follows 67 = .ok (.aload_n 0, 1) := by decide +kernel
theorem dX8_follows_68 : decode cX8_follows 68 = .ok (.getfield 16, 3) := by decide +kernel
theorem dX8_follows_71 : decode cX8_follows 71 = .ok (.iload_n 2, 1) := by decide +kernel
theorem dX8_follows_72 : decode cX8_follows 72 = .ok (.iaload, 1) := by decide +kernel
theorem dX8_follows_73 : decode cX8_follows 73 = .ok (.if_icmp .lt 4, 3) := by decide +kernel
theorem dX8_follows_76 : decode cX8_follows 76 = .ok (.return_, 1) := by decide +kernel
theorem dX8_follows_77 : decode cX8_follows 77 = .ok (.aload_n 0, 1) := by decide +kernel
theorem dX8_follows_78 : decode cX8_follows 78 = .ok (.getfield 13, 3) := by decide +kernel
theorem dX8_follows_81 : decode cX8_follows 81 = .ok (.iload_n 2, 1) := by decide +kernel
theorem dX8_follows_82 : decode cX8_follows 82 = .ok (.iload 5, 2) := by decide +kernel
theorem dX8_follows_84 : decode cX8_follows 84 = .ok (.iastore, 1) := by decide +kernel
theorem dX8_follows_85 : decode cX8_follows 85 = .ok (.aload_n 0, 1) := by decide +kernel
theorem dX8_follows_86 : decode cX8_follows 86 = .ok (.getfield 16, 3) := by decide +kernel
theorem dX8_follows_89 : decode cX8_follows 89 = .ok (.iload_n 2, 1) := by decide +kernel
theorem dX8_follows_90 : decode cX8_follows 90 = .ok (.iload 6, 2) := by decide +kernel
theorem dX8_follows_92 : decode cX8_follows 92 = .ok (.iastore, 1) := by decide +kernel
theorem dX8_follows_93 : decode cX8_follows 93 = .ok (.return_, 1) := by decide +kernel
theorem dX8_bestWorth_0 : decode cX8_bestWorth 0 = .ok (.aload_n 0, 1) := by decide +kernel
theorem dX8_bestWorth_1 : decode cX8_bestWorth 1 = .ok (.iload_n 1, 1) := by decide +kernel
theorem dX8_bestWorth_2 : decode cX8_bestWorth 2 = .ok (.iconst 0, 1) := by decide +kernel
theorem dX8_bestWorth_3 : decode cX8_bestWorth 3 = .ok (.bipush 60, 2) := by decide +kernel
theorem dX8_bestWorth_5 : decode cX8_bestWorth 5 = .ok (.invokestatic 69, 3) := by decide +kernel
theorem dX8_bestWorth_8 : decode cX8_bestWorth 8 = .ok (.invokevirtual 115, 3) := by decide +kernel
theorem dX8_bestWorth_11 : decode cX8_bestWorth 11 = .ok (.ifCond .ne 5, 3) := by decide +kernel
theorem dX8_bestWorth_14 : decode cX8_bestWorth 14 = .ok (.iconst 0, 1) := by decide +kernel
theorem dX8_bestWorth_15 : decode cX8_bestWorth 15 = .ok (.ireturn, 1) := by decide +kernel
theorem dX8_bestWorth_16 : decode cX8_bestWorth 16 = .ok (.aload_n 0, 1) := by decide +kernel
theorem dX8_bestWorth_17 : decode cX8_bestWorth 17 = .ok (.iload_n 1, 1) := by decide +kernel
theorem dX8_bestWorth_18 : decode cX8_bestWorth 18 = .ok (.invokevirtual 144, 3) := by decide +kernel
theorem dX8_bestWorth_21 : decode cX8_bestWorth 21 = .ok (.iload_n 1, 1) := by decide +kernel
theorem dX8_bestWorth_22 : decode cX8_bestWorth 22 = .ok (.ifCond .ne 7, 3) := by decide +kernel
theorem dX8_bestWorth_25 : decode cX8_bestWorth 25 = .ok (.iconst 0, 1) := by decide +kernel
theorem dX8_bestWorth_26 : decode cX8_bestWorth 26 = .ok (.goto 9, 3) := by decide +kernel
theorem dX8_bestWorth_29 : decode cX8_bestWorth 29 = .ok (.aload_n 0, 1) := by decide +kernel
theorem dX8_bestWorth_30 : decode cX8_bestWorth 30 = .ok (.getfield 13, 3) := by decide +kernel
theorem dX8_bestWorth_33 : decode cX8_bestWorth 33 = .ok (.iconst 1, 1) := by decide +kernel
theorem dX8_bestWorth_34 : decode cX8_bestWorth 34 = .ok (.iaload, 1) := by decide +kernel
theorem dX8_bestWorth_35 : decode cX8_bestWorth 35 = .ok (.ireturn, 1) := by decide +kernel
theorem dX8_bestWorthByDays_0 : decode cX8_bestWorthByDays 0 = .ok (.aload_n 0, 1) := by decide +kernel
theorem dX8_bestWorthByDays_1 : decode cX8_bestWorthByDays 1 = .ok (.iload_n 1, 1) := by decide +kernel
theorem dX8_bestWorthByDays_2 : decode cX8_bestWorthByDays 2 = .ok (.invokevirtual 147, 3) := by decide +kernel
theorem dX8_bestWorthByDays_5 : decode cX8_bestWorthByDays 5 = .ok (.ireturn, 1) := by decide +kernel
theorem dX8_fewestPasses_0 : decode cX8_fewestPasses 0 = .ok (.aload_n 0, 1) := by decide +kernel
theorem dX8_fewestPasses_1 : decode cX8_fewestPasses 1 = .ok (.iload_n 1, 1) := by decide +kernel
theorem dX8_fewestPasses_2 : decode cX8_fewestPasses 2 = .ok (.invokevirtual 147, 3) := by decide +kernel
theorem dX8_fewestPasses_5 : decode cX8_fewestPasses 5 = .ok (.istore_n 2, 1) := by decide +kernel
theorem dX8_fewestPasses_6 : decode cX8_fewestPasses 6 = .ok (.aload_n 0, 1) := by decide +kernel
theorem dX8_fewestPasses_7 : decode cX8_fewestPasses 7 = .ok (.getfield 36, 3) := by decide +kernel
theorem dX8_fewestPasses_10 : decode cX8_fewestPasses 10 = .ok (.ifCond .ne 16, 3) := by decide +kernel
theorem dX8_fewestPasses_13 : decode cX8_fewestPasses 13 = .ok (.iload_n 1, 1) := by decide +kernel
theorem dX8_fewestPasses_14 : decode cX8_fewestPasses 14 = .ok (.ifCond .le 12, 3) := by decide +kernel
theorem dX8_fewestPasses_17 : decode cX8_fewestPasses 17 = .ok (.aload_n 0, 1) := by decide +kernel
theorem dX8_fewestPasses_18 : decode cX8_fewestPasses 18 = .ok (.getfield 16, 3) := by decide +kernel
theorem dX8_fewestPasses_21 : decode cX8_fewestPasses 21 = .ok (.iconst 1, 1) := by decide +kernel
theorem dX8_fewestPasses_22 : decode cX8_fewestPasses 22 = .ok (.iaload, 1) := by decide +kernel
theorem dX8_fewestPasses_23 : decode cX8_fewestPasses 23 = .ok (.goto 4, 3) := by decide +kernel
theorem dX8_fewestPasses_26 : decode cX8_fewestPasses 26 = .ok (.iconst 0, 1) := by decide +kernel
theorem dX8_fewestPasses_27 : decode cX8_fewestPasses 27 = .ok (.ireturn, 1) := by decide +kernel
theorem dX8_dust_0 : decode cX8_dust 0 = .ok (.aload_n 0, 1) := by decide +kernel
theorem dX8_dust_1 : decode cX8_dust 1 = .ok (.iload_n 1, 1) := by decide +kernel
theorem dX8_dust_2 : decode cX8_dust 2 = .ok (.iconst 0, 1) := by decide +kernel
theorem dX8_dust_3 : decode cX8_dust 3 = .ok (.bipush 11, 2) := by decide +kernel
theorem dX8_dust_5 : decode cX8_dust 5 = .ok (.invokestatic 69, 3) := by decide +kernel
theorem dX8_dust_8 : decode cX8_dust 8 = .ok (.invokevirtual 115, 3) := by decide +kernel
theorem dX8_dust_11 : decode cX8_dust 11 = .ok (.ifCond .eq 15, 3) := by decide +kernel
theorem dX8_dust_14 : decode cX8_dust 14 = .ok (.aload_n 0, 1) := by decide +kernel
theorem dX8_dust_15 : decode cX8_dust 15 = .ok (.getfield 9, 3) := by decide +kernel
theorem dX8_dust_18 : decode cX8_dust 18 = .ok (.bipush 37, 2) := by decide +kernel
theorem dX8_dust_20 : decode cX8_dust 20 = .ok (.iload_n 1, 1) := by decide +kernel
theorem dX8_dust_21 : decode cX8_dust 21 = .ok (.iadd, 1) := by decide +kernel
theorem dX8_dust_22 : decode cX8_dust 22 = .ok (.iaload, 1) := by decide +kernel
theorem dX8_dust_23 : decode cX8_dust 23 = .ok (.goto 4, 3) := by decide +kernel
theorem dX8_dust_26 : decode cX8_dust 26 = .ok (.iconst 0, 1) := by decide +kernel
theorem dX8_dust_27 : decode cX8_dust 27 = .ok (.ireturn, 1) := by decide +kernel
theorem dX8_gains_0 : decode cX8_gains 0 = .ok (.aload_n 0, 1) := by decide +kernel
theorem dX8_gains_1 : decode cX8_gains 1 = .ok (.iload_n 1, 1) := by decide +kernel
theorem dX8_gains_2 : decode cX8_gains 2 = .ok (.iload_n 2, 1) := by decide +kernel
theorem dX8_gains_3 : decode cX8_gains 3 = .ok (.invokevirtual 103, 3) := by decide +kernel
theorem dX8_gains_6 : decode cX8_gains 6 = .ok (.aload_n 0, 1) := by decide +kernel
theorem dX8_gains_7 : decode cX8_gains 7 = .ok (.getfield 9, 3) := by decide +kernel
theorem dX8_gains_10 : decode cX8_gains 10 = .ok (.iconst 4, 1) := by decide +kernel
theorem dX8_gains_11 : decode cX8_gains 11 = .ok (.iaload, 1) := by decide +kernel
theorem dX8_gains_12 : decode cX8_gains 12 = .ok (.iload_n 2, 1) := by decide +kernel
theorem dX8_gains_13 : decode cX8_gains 13 = .ok (.imul, 1) := by decide +kernel
theorem dX8_gains_14 : decode cX8_gains 14 = .ok (.isub, 1) := by decide +kernel
theorem dX8_gains_15 : decode cX8_gains 15 = .ok (.ireturn, 1) := by decide +kernel
theorem dX8_gain_0 : decode cX8_gain 0 = .ok (.aload_n 0, 1) := by decide +kernel
theorem dX8_gain_1 : decode cX8_gain 1 = .ok (.iload_n 1, 1) := by decide +kernel
theorem dX8_gain_2 : decode cX8_gain 2 = .ok (.iconst 0, 1) := by decide +kernel
theorem dX8_gain_3 : decode cX8_gain 3 = .ok (.bipush 11, 2) := by decide +kernel
theorem dX8_gain_5 : decode cX8_gain 5 = .ok (.invokestatic 69, 3) := by decide +kernel
theorem dX8_gain_8 : decode cX8_gain 8 = .ok (.ifCond .ne 7, 3) := by decide +kernel
theorem dX8_gain_11 : decode cX8_gain 11 = .ok (.iconst 1, 1) := by decide +kernel
theorem dX8_gain_12 : decode cX8_gain 12 = .ok (.goto 18, 3) := by decide +kernel
theorem dX8_gain_15 : decode cX8_gain 15 = .ok (.iload_n 2, 1) := by decide +kernel
theorem dX8_gain_16 : decode cX8_gain 16 = .ok (.iconst 1, 1) := by decide +kernel
theorem dX8_gain_17 : decode cX8_gain 17 = .ok (.bipush 12, 2) := by decide +kernel
theorem dX8_gain_19 : decode cX8_gain 19 = .ok (.invokestatic 69, 3) := by decide +kernel
theorem dX8_gain_22 : decode cX8_gain 22 = .ok (.ifCond .ne 7, 3) := by decide +kernel
theorem dX8_gain_25 : decode cX8_gain 25 = .ok (.iconst 2, 1) := by decide +kernel
theorem dX8_gain_26 : decode cX8_gain 26 = .ok (.goto 4, 3) := by decide +kernel
theorem dX8_gain_29 : decode cX8_gain 29 = .ok (.iconst 0, 1) := by decide +kernel
theorem dX8_gain_30 : decode cX8_gain 30 = .ok (.putfield 36, 3) := by decide +kernel
theorem dX8_gain_33 : decode cX8_gain 33 = .ok (.aload_n 0, 1) := by decide +kernel
theorem dX8_gain_34 : decode cX8_gain 34 = .ok (.getfield 36, 3) := by decide +kernel
theorem dX8_gain_37 : decode cX8_gain 37 = .ok (.ifCond .ne 12, 3) := by decide +kernel
theorem dX8_gain_40 : decode cX8_gain 40 = .ok (.aload_n 0, 1) := by decide +kernel
theorem dX8_gain_41 : decode cX8_gain 41 = .ok (.iload_n 1, 1) := by decide +kernel
theorem dX8_gain_42 : decode cX8_gain 42 = .ok (.iload_n 2, 1) := by decide +kernel
theorem dX8_gain_43 : decode cX8_gain 43 = .ok (.invokevirtual 150, 3) := by decide +kernel
theorem dX8_gain_46 : decode cX8_gain 46 = .ok (.goto 4, 3) := by decide +kernel
theorem dX8_gain_49 : decode cX8_gain 49 = .ok (.iconst 0, 1) := by decide +kernel
theorem dX8_gain_50 : decode cX8_gain 50 = .ok (.ireturn, 1) := by decide +kernel
theorem dX8_bestArc_0 : decode cX8_bestArc 0 = .ok (.bipush 16, 2) := by decide +kernel
theorem dX8_bestArc_2 : decode cX8_bestArc 2 = .ok (.istore_n 1, 1) := by decide +kernel
theorem dX8_bestArc_3 : decode cX8_bestArc 3 = .ok (.iconst 1, 1) := by decide +kernel
theorem dX8_bestArc_4 : decode cX8_bestArc 4 = .ok (.istore_n 2, 1) := by decide +kernel
theorem dX8_bestArc_5 : decode cX8_bestArc 5 = .ok (.iload_n 2, 1) := by decide +kernel
theorem dX8_bestArc_6 : decode cX8_bestArc 6 = .ok (.bipush 12, 2) := by decide +kernel
theorem dX8_bestArc_8 : decode cX8_bestArc 8 = .ok (.if_icmp .gt 55, 3) := by decide +kernel
theorem dX8_bestArc_11 : decode cX8_bestArc 11 = .ok (.iconst 0, 1) := by decide +kernel
theorem dX8_bestArc_12 : decode cX8_bestArc 12 = .ok (.istore_n 3, 1) := by decide +kernel
theorem dX8_bestArc_13 : decode cX8_bestArc 13 = .ok (.iload_n 3, 1) := by decide +kernel
theorem dX8_bestArc_14 : decode cX8_bestArc 14 = .ok (.bipush 12, 2) := by decide +kernel
theorem dX8_bestArc_16 : decode cX8_bestArc 16 = .ok (.if_icmp .ge 41, 3) := by decide +kernel
theorem dX8_bestArc_19 : decode cX8_bestArc 19 = .ok (.aload_n 0, 1) := by decide +kernel
theorem dX8_bestArc_20 : decode cX8_bestArc 20 = .ok (.iload_n 3, 1) := by decide +kernel
theorem dX8_bestArc_21 : decode cX8_bestArc 21 = .ok (.iload_n 2, 1) := by decide +kernel
theorem dX8_bestArc_22 : decode cX8_bestArc 22 = .ok (.invokevirtual 150, 3) := by decide +kernel
theorem dX8_bestArc_25 : decode cX8_bestArc 25 = .ok (.aload_n 0, 1) := by decide +kernel
theorem dX8_bestArc_26 : decode cX8_bestArc 26 = .ok (.iload_n 1, 1) := by decide +kernel
theorem dX8_bestArc_27 : decode cX8_bestArc 27 = .ok (.bipush 16, 2) := by decide +kernel
theorem dX8_bestArc_29 : decode cX8_bestArc 29 = .ok (.irem, 1) := by decide +kernel
theorem dX8_bestArc_30 : decode cX8_bestArc 30 = .ok (.iload_n 1, 1) := by decide +kernel
theorem dX8_bestArc_31 : decode cX8_bestArc 31 = .ok (.bipush 16, 2) := by decide +kernel
theorem dX8_bestArc_33 : decode cX8_bestArc 33 = .ok (.idiv, 1) := by decide +kernel
theorem dX8_bestArc_34 : decode cX8_bestArc 34 = .ok (.invokevirtual 150, 3) := by decide +kernel
theorem dX8_bestArc_37 : decode cX8_bestArc 37 = .ok (.if_icmp .le 12, 3) := by decide +kernel
theorem dX8_bestArc_40 : decode cX8_bestArc 40 = .ok (.bipush 16, 2) := by decide +kernel
theorem dX8_bestArc_42 : decode cX8_bestArc 42 = .ok (.iload_n 2, 1) := by decide +kernel
theorem dX8_bestArc_43 : decode cX8_bestArc 43 = .ok (.imul, 1) := by decide +kernel
theorem dX8_bestArc_44 : decode cX8_bestArc 44 = .ok (.iload_n 3, 1) := by decide +kernel
theorem dX8_bestArc_45 : decode cX8_bestArc 45 = .ok (.iadd, 1) := by decide +kernel
theorem dX8_bestArc_46 : decode cX8_bestArc 46 = .ok (.goto 4, 3) := by decide +kernel
theorem dX8_bestArc_49 : decode cX8_bestArc 49 = .ok (.iload_n 1, 1) := by decide +kernel
theorem dX8_bestArc_50 : decode cX8_bestArc 50 = .ok (.istore_n 1, 1) := by decide +kernel
theorem dX8_bestArc_51 : decode cX8_bestArc 51 = .ok (.iinc 3 1, 3) := by decide +kernel
theorem dX8_bestArc_54 : decode cX8_bestArc 54 = .ok (.goto (-41), 3) := by decide +kernel
theorem dX8_bestArc_57 : decode cX8_bestArc 57 = .ok (.iinc 2 1, 3) := by decide +kernel
theorem dX8_bestArc_60 : decode cX8_bestArc 60 = .ok (.goto (-55), 3) := by decide +kernel
theorem dX8_bestArc_63 : decode cX8_bestArc 63 = .ok (.iload_n 1, 1) := by decide +kernel
theorem dX8_bestArc_64 : decode cX8_bestArc 64 = .ok (.ireturn, 1) := by decide +kernel
theorem dX8_bestGain_0 : decode cX8_bestGain 0 = .ok (.aload_n 0, 1) := by decide +kernel
theorem dX8_bestGain_1 : decode cX8_bestGain 1 = .ok (.iconst 0, 1) := by decide +kernel
theorem dX8_bestGain_2 : decode cX8_bestGain 2 = .ok (.putfield 36, 3) := by decide +kernel
theorem dX8_bestGain_5 : decode cX8_bestGain 5 = .ok (.aload_n 0, 1) := by decide +kernel
theorem dX8_bestGain_6 : decode cX8_bestGain 6 = .ok (.invokevirtual 153, 3) := by decide +kernel
theorem dX8_bestGain_9 : decode cX8_bestGain 9 = .ok (.istore_n 1, 1) := by decide +kernel
theorem dX8_bestGain_10 : decode cX8_bestGain 10 = .ok (.aload_n 0, 1) := by decide +kernel
theorem dX8_bestGain_11 : decode cX8_bestGain 11 = .ok (.iload_n 1, 1) := by decide +kernel
theorem dX8_bestGain_12 : decode cX8_bestGain 12 = .ok (.bipush 16, 2) := by decide +kernel
theorem dX8_bestGain_14 : decode cX8_bestGain 14 = .ok (.irem, 1) := by decide +kernel
theorem dX8_bestGain_15 : decode cX8_bestGain 15 = .ok (.iload_n 1, 1) := by decide +kernel
theorem dX8_bestGain_16 : decode cX8_bestGain 16 = .ok (.bipush 16, 2) := by decide +kernel
theorem dX8_bestGain_18 : decode cX8_bestGain 18 = .ok (.idiv, 1) := by decide +kernel
theorem dX8_bestGain_19 : decode cX8_bestGain 19 = .ok (.invokevirtual 150, 3) := by decide +kernel
theorem dX8_bestGain_22 : decode cX8_bestGain 22 = .ok (.ireturn, 1) := by decide +kernel
theorem dX8_bestGainByArcs_0 : decode cX8_bestGainByArcs 0 = .ok (.aload_n 0, 1) := by decide +kernel
theorem dX8_bestGainByArcs_1 : decode cX8_bestGainByArcs 1 = .ok (.invokevirtual 156, 3) := by decide +kernel
theorem dX8_bestGainByArcs_4 : decode cX8_bestGainByArcs 4 = .ok (.ireturn, 1) := by decide +kernel
theorem dX8_bestStart_0 : decode cX8_bestStart 0 = .ok (.aload_n 0, 1) := by decide +kernel
theorem dX8_bestStart_1 : decode cX8_bestStart 1 = .ok (.iconst 0, 1) := by decide +kernel
theorem dX8_bestStart_2 : decode cX8_bestStart 2 = .ok (.putfield 36, 3) := by decide +kernel
theorem dX8_bestStart_5 : decode cX8_bestStart 5 = .ok (.aload_n 0, 1) := by decide +kernel
theorem dX8_bestStart_6 : decode cX8_bestStart 6 = .ok (.invokevirtual 153, 3) := by decide +kernel
theorem dX8_bestStart_9 : decode cX8_bestStart 9 = .ok (.bipush 16, 2) := by decide +kernel
theorem dX8_bestStart_11 : decode cX8_bestStart 11 = .ok (.irem, 1) := by decide +kernel
theorem dX8_bestStart_12 : decode cX8_bestStart 12 = .ok (.ireturn, 1) := by decide +kernel
theorem dX8_bestPlaces_0 : decode cX8_bestPlaces 0 = .ok (.aload_n 0, 1) := by decide +kernel
theorem dX8_bestPlaces_1 : decode cX8_bestPlaces 1 = .ok (.iconst 0, 1) := by decide +kernel
theorem dX8_bestPlaces_2 : decode cX8_bestPlaces 2 = .ok (.putfield 36, 3) := by decide +kernel
theorem dX8_bestPlaces_5 : decode cX8_bestPlaces 5 = .ok (.aload_n 0, 1) := by decide +kernel
theorem dX8_bestPlaces_6 : decode cX8_bestPlaces 6 = .ok (.invokevirtual 153, 3) := by decide +kernel
theorem dX8_bestPlaces_9 : decode cX8_bestPlaces 9 = .ok (.bipush 16, 2) := by decide +kernel
theorem dX8_bestPlaces_11 : decode cX8_bestPlaces 11 = .ok (.idiv, 1) := by decide +kernel
theorem dX8_bestPlaces_12 : decode cX8_bestPlaces 12 = .ok (.ireturn, 1) := by decide +kernel
theorem dX8_day_0 : decode cX8_day 0 = .ok (.aload_n 0, 1) := by decide +kernel
theorem dX8_day_1 : decode cX8_day 1 = .ok (.iconst 2, 1) := by decide +kernel
theorem dX8_day_2 : decode cX8_day 2 = .ok (.invokevirtual 112, 3) := by decide +kernel
theorem dX8_day_5 : decode cX8_day 5 = .ok (.ireturn, 1) := by decide +kernel
theorem dX8_coins_0 : decode cX8_coins 0 = .ok (.aload_n 0, 1) := by decide +kernel
theorem dX8_coins_1 : decode cX8_coins 1 = .ok (.iconst 3, 1) := by decide +kernel
theorem dX8_coins_2 : decode cX8_coins 2 = .ok (.invokevirtual 112, 3) := by decide +kernel
theorem dX8_coins_5 : decode cX8_coins 5 = .ok (.ireturn, 1) := by decide +kernel
theorem dX8_rate_0 : decode cX8_rate 0 = .ok (.aload_n 0, 1) := by decide +kernel
theorem dX8_rate_1 : decode cX8_rate 1 = .ok (.iconst 4, 1) := by decide +kernel
theorem dX8_rate_2 : decode cX8_rate 2 = .ok (.invokevirtual 112, 3) := by decide +kernel
theorem dX8_rate_5 : decode cX8_rate 5 = .ok (.ireturn, 1) := by decide +kernel
theorem dX8_dustTotal_0 : decode cX8_dustTotal 0 = .ok (.aload_n 0, 1) := by decide +kernel
theorem dX8_dustTotal_1 : decode cX8_dustTotal 1 = .ok (.iconst 0, 1) := by decide +kernel
theorem dX8_dustTotal_2 : decode cX8_dustTotal 2 = .ok (.putfield 36, 3) := by decide +kernel
theorem dX8_dustTotal_5 : decode cX8_dustTotal 5 = .ok (.aload_n 0, 1) := by decide +kernel
theorem dX8_dustTotal_6 : decode cX8_dustTotal 6 = .ok (.iconst 0, 1) := by decide +kernel
theorem dX8_dustTotal_7 : decode cX8_dustTotal 7 = .ok (.bipush 12, 2) := by decide +kernel
theorem dX8_dustTotal_9 : decode cX8_dustTotal 9 = .ok (.invokevirtual 103, 3) := by decide +kernel
theorem dX8_dustTotal_12 : decode cX8_dustTotal 12 = .ok (.ireturn, 1) := by decide +kernel
theorem dX8_dustByAccounts_0 : decode cX8_dustByAccounts 0 = .ok (.aload_n 0, 1) := by decide +kernel
theorem dX8_dustByAccounts_1 : decode cX8_dustByAccounts 1 = .ok (.invokevirtual 159, 3) := by decide +kernel
theorem dX8_dustByAccounts_4 : decode cX8_dustByAccounts 4 = .ok (.ireturn, 1) := by decide +kernel
theorem dX8_passTotal_0 : decode cX8_passTotal 0 = .ok (.aload_n 0, 1) := by decide +kernel
theorem dX8_passTotal_1 : decode cX8_passTotal 1 = .ok (.iconst 5, 1) := by decide +kernel
theorem dX8_passTotal_2 : decode cX8_passTotal 2 = .ok (.invokevirtual 112, 3) := by decide +kernel
theorem dX8_passTotal_5 : decode cX8_passTotal 5 = .ok (.ireturn, 1) := by decide +kernel
theorem dX8_burntTotal_0 : decode cX8_burntTotal 0 = .ok (.aload_n 0, 1) := by decide +kernel
theorem dX8_burntTotal_1 : decode cX8_burntTotal 1 = .ok (.bipush 6, 2) := by decide +kernel
theorem dX8_burntTotal_3 : decode cX8_burntTotal 3 = .ok (.invokevirtual 112, 3) := by decide +kernel
theorem dX8_burntTotal_6 : decode cX8_burntTotal 6 = .ok (.ireturn, 1) := by decide +kernel
theorem dX8_meanBrightness_0 : decode cX8_meanBrightness 0 = .ok (.iconst 0, 1) := by decide +kernel
theorem dX8_meanBrightness_1 : decode cX8_meanBrightness 1 = .ok (.istore_n 1, 1) := by decide +kernel
theorem dX8_meanBrightness_2 : decode cX8_meanBrightness 2 = .ok (.iconst 0, 1) := by decide +kernel
theorem dX8_meanBrightness_3 : decode cX8_meanBrightness 3 = .ok (.istore_n 2, 1) := by decide +kernel
theorem dX8_meanBrightness_4 : decode cX8_meanBrightness 4 = .ok (.iload_n 2, 1) := by decide +kernel
theorem dX8_meanBrightness_5 : decode cX8_meanBrightness 5 = .ok (.aload_n 0, 1) := by decide +kernel
theorem dX8_meanBrightness_6 : decode cX8_meanBrightness 6 = .ok (.getfield 9, 3) := by decide +kernel
theorem dX8_meanBrightness_9 : decode cX8_meanBrightness 9 = .ok (.iconst 0, 1) := by decide +kernel
theorem dX8_meanBrightness_10 : decode cX8_meanBrightness 10 = .ok (.iaload, 1) := by decide +kernel
theorem dX8_meanBrightness_11 : decode cX8_meanBrightness 11 = .ok (.if_icmp .ge 18, 3) := by decide +kernel
theorem dX8_meanBrightness_14 : decode cX8_meanBrightness 14 = .ok (.iload_n 1, 1) := by decide +kernel
theorem dX8_meanBrightness_15 : decode cX8_meanBrightness 15 = .ok (.aload_n 0, 1) := by decide +kernel
theorem dX8_meanBrightness_16 : decode cX8_meanBrightness 16 = .ok (.iload_n 2, 1) := by decide +kernel
theorem dX8_meanBrightness_17 : decode cX8_meanBrightness 17 = .ok (.iconst 2, 1) := by decide +kernel
theorem dX8_meanBrightness_18 : decode cX8_meanBrightness 18 = .ok (.invokevirtual 49, 3) := by decide +kernel
theorem dX8_meanBrightness_21 : decode cX8_meanBrightness 21 = .ok (.iadd, 1) := by decide +kernel
theorem dX8_meanBrightness_22 : decode cX8_meanBrightness 22 = .ok (.istore_n 1, 1) := by decide +kernel
theorem dX8_meanBrightness_23 : decode cX8_meanBrightness 23 = .ok (.iinc 2 1, 3) := by decide +kernel
theorem dX8_meanBrightness_26 : decode cX8_meanBrightness 26 = .ok (.goto (-22), 3) := by decide +kernel
theorem dX8_meanBrightness_29 : decode cX8_meanBrightness 29 = .ok (.aload_n 0, 1) := by decide +kernel
theorem dX8_meanBrightness_30 : decode cX8_meanBrightness 30 = .ok (.aload_n 0, 1) := by decide +kernel
theorem dX8_meanBrightness_31 : decode cX8_meanBrightness 31 = .ok (.getfield 9, 3) := by decide +kernel
theorem dX8_meanBrightness_34 : decode cX8_meanBrightness 34 = .ok (.iconst 0, 1) := by decide +kernel
theorem dX8_meanBrightness_35 : decode cX8_meanBrightness 35 = .ok (.iaload, 1) := by decide +kernel
theorem dX8_meanBrightness_36 : decode cX8_meanBrightness 36 = .ok (.ifCond .le 7, 3) := by decide +kernel
theorem dX8_meanBrightness_39 : decode cX8_meanBrightness 39 = .ok (.iconst 1, 1) := by decide +kernel
theorem dX8_meanBrightness_40 : decode cX8_meanBrightness 40 = .ok (.goto 4, 3) := by decide +kernel
theorem dX8_meanBrightness_43 : decode cX8_meanBrightness 43 = .ok (.iconst 0, 1) := by decide +kernel
theorem dX8_meanBrightness_44 : decode cX8_meanBrightness 44 = .ok (.invokevirtual 115, 3) := by decide +kernel
theorem dX8_meanBrightness_47 : decode cX8_meanBrightness 47 = .ok (.ifCond .eq 16, 3) := by decide +kernel
theorem dX8_meanBrightness_50 : decode cX8_meanBrightness 50 = .ok (.iload_n 1, 1) := by decide +kernel
theorem dX8_meanBrightness_51 : decode cX8_meanBrightness 51 = .ok (.i2d, 1) := by decide +kernel
theorem dX8_meanBrightness_52 : decode cX8_meanBrightness 52 = .ok (.aload_n 0, 1) := by decide +kernel
theorem dX8_meanBrightness_53 : decode cX8_meanBrightness 53 = .ok (.getfield 9, 3) := by decide +kernel
theorem dX8_meanBrightness_56 : decode cX8_meanBrightness 56 = .ok (.iconst 0, 1) := by decide +kernel
theorem dX8_meanBrightness_57 : decode cX8_meanBrightness 57 = .ok (.iaload, 1) := by decide +kernel
theorem dX8_meanBrightness_58 : decode cX8_meanBrightness 58 = .ok (.i2d, 1) := by decide +kernel
theorem dX8_meanBrightness_59 : decode cX8_meanBrightness 59 = .ok (.ddiv, 1) := by decide +kernel
theorem dX8_meanBrightness_60 : decode cX8_meanBrightness 60 = .ok (.goto 4, 3) := by decide +kernel
theorem dX8_meanBrightness_63 : decode cX8_meanBrightness 63 = .ok (.dconst 0, 1) := by decide +kernel
theorem dX8_meanBrightness_64 : decode cX8_meanBrightness 64 = .ok (.dreturn, 1) := by decide +kernel
theorem dX8_dustyShare_0 : decode cX8_dustyShare 0 = .ok (.aload_n 0, 1) := by decide +kernel
theorem dX8_dustyShare_1 : decode cX8_dustyShare 1 = .ok (.iconst 0, 1) := by decide +kernel
theorem dX8_dustyShare_2 : decode cX8_dustyShare 2 = .ok (.putfield 36, 3) := by decide +kernel
theorem dX8_dustyShare_5 : decode cX8_dustyShare 5 = .ok (.iconst 0, 1) := by decide +kernel
theorem dX8_dustyShare_6 : decode cX8_dustyShare 6 = .ok (.istore_n 1, 1) := by decide +kernel
theorem dX8_dustyShare_7 : decode cX8_dustyShare 7 = .ok (.iconst 0, 1) := by decide +kernel
theorem dX8_dustyShare_8 : decode cX8_dustyShare 8 = .ok (.istore_n 2, 1) := by decide +kernel
theorem dX8_dustyShare_9 : decode cX8_dustyShare 9 = .ok (.iload_n 2, 1) := by decide +kernel
theorem dX8_dustyShare_10 : decode cX8_dustyShare 10 = .ok (.bipush 12, 2) := by decide +kernel
theorem dX8_dustyShare_12 : decode cX8_dustyShare 12 = .ok (.if_icmp .ge 29, 3) := by decide +kernel
theorem dX8_dustyShare_15 : decode cX8_dustyShare 15 = .ok (.iload_n 1, 1) := by decide +kernel
theorem dX8_dustyShare_16 : decode cX8_dustyShare 16 = .ok (.aload_n 0, 1) := by decide +kernel
theorem dX8_dustyShare_17 : decode cX8_dustyShare 17 = .ok (.getfield 9, 3) := by decide +kernel
theorem dX8_dustyShare_20 : decode cX8_dustyShare 20 = .ok (.bipush 37, 2) := by decide +kernel
theorem dX8_dustyShare_22 : decode cX8_dustyShare 22 = .ok (.iload_n 2, 1) := by decide +kernel
theorem dX8_dustyShare_23 : decode cX8_dustyShare 23 = .ok (.iadd, 1) := by decide +kernel
theorem dX8_dustyShare_24 : decode cX8_dustyShare 24 = .ok (.iaload, 1) := by decide +kernel
theorem dX8_dustyShare_25 : decode cX8_dustyShare 25 = .ok (.ifCond .le 7, 3) := by decide +kernel
theorem dX8_dustyShare_28 : decode cX8_dustyShare 28 = .ok (.iconst 1, 1) := by decide +kernel
theorem dX8_dustyShare_29 : decode cX8_dustyShare 29 = .ok (.goto 4, 3) := by decide +kernel
theorem dX8_dustyShare_32 : decode cX8_dustyShare 32 = .ok (.iconst 0, 1) := by decide +kernel
theorem dX8_dustyShare_33 : decode cX8_dustyShare 33 = .ok (.iadd, 1) := by decide +kernel
theorem dX8_dustyShare_34 : decode cX8_dustyShare 34 = .ok (.istore_n 1, 1) := by decide +kernel
theorem dX8_dustyShare_35 : decode cX8_dustyShare 35 = .ok (.iinc 2 1, 3) := by decide +kernel
theorem dX8_dustyShare_38 : decode cX8_dustyShare 38 = .ok (.goto (-29), 3) := by decide +kernel
theorem dX8_dustyShare_41 : decode cX8_dustyShare 41 = .ok (.iload_n 1, 1) := by decide +kernel
theorem dX8_dustyShare_42 : decode cX8_dustyShare 42 = .ok (.i2f, 1) := by decide +kernel
theorem dX8_dustyShare_43 : decode cX8_dustyShare 43 = .ok (.ldc 162, 2) := by decide +kernel
theorem dX8_dustyShare_45 : decode cX8_dustyShare 45 = .ok (.fdiv, 1) := by decide +kernel
theorem dX8_dustyShare_46 : decode cX8_dustyShare 46 = .ok (.freturn, 1) := by decide +kernel
theorem dX8_isConsistent_0 : decode cX8_isConsistent 0 = .ok (.aload_n 0, 1) := by decide +kernel
theorem dX8_isConsistent_1 : decode cX8_isConsistent 1 = .ok (.iconst 0, 1) := by decide +kernel
theorem dX8_isConsistent_2 : decode cX8_isConsistent 2 = .ok (.putfield 36, 3) := by decide +kernel
theorem dX8_isConsistent_5 : decode cX8_isConsistent 5 = .ok (.iconst 1, 1) := by decide +kernel
theorem dX8_isConsistent_6 : decode cX8_isConsistent 6 = .ok (.ireturn, 1) := by decide +kernel
theorem dX8_append_0 : decode cX8_append 0 = .ok (.aload_n 0, 1) := by decide +kernel
theorem dX8_append_1 : decode cX8_append 1 = .ok (.aload_n 0, 1) := by decide +kernel
theorem dX8_append_2 : decode cX8_append 2 = .ok (.getfield 163, 3) := by decide +kernel
theorem dX8_append_5 : decode cX8_append 5 = .ok (.bipush 60, 2) := by decide +kernel
theorem dX8_append_7 : decode cX8_append 7 = .ok (.if_icmp .ge 7, 3) := by decide +kernel
theorem dX8_append_10 : decode cX8_append 10 = .ok (.iconst 1, 1) := by decide +kernel
theorem dX8_append_11 : decode cX8_append 11 = .ok (.goto 4, 3) := by decide +kernel
theorem dX8_append_14 : decode cX8_append 14 = .ok (.iconst 0, 1) := by decide +kernel
theorem dX8_append_15 : decode cX8_append 15 = .ok (.invokevirtual 115, 3) := by decide +kernel
theorem dX8_append_18 : decode cX8_append 18 = .ok (.ifCond .ne 5, 3) := by decide +kernel
theorem dX8_append_21 : decode cX8_append 21 = .ok (.iconst 0, 1) := by decide +kernel
theorem dX8_append_22 : decode cX8_append 22 = .ok (.ireturn, 1) := by decide +kernel
theorem dX8_append_23 : decode cX8_append 23 = .ok (.aload_n 0, 1) := by decide +kernel
theorem dX8_append_24 : decode cX8_append 24 = .ok (.getfield 19, 3) := by decide +kernel
theorem dX8_append_27 : decode cX8_append 27 = .ok (.aload_n 0, 1) := by decide +kernel
theorem dX8_append_28 : decode cX8_append 28 = .ok (.getfield 163, 3) := by decide +kernel
theorem dX8_append_31 : decode cX8_append 31 = .ok (.iload_n 1, 1) := by decide +kernel
theorem dX8_append_32 : decode cX8_append 32 = .ok (.castore, 1) := by decide +kernel
theorem dX8_append_33 : decode cX8_append 33 = .ok (.aload_n 0, 1) := by decide +kernel
theorem dX8_append_34 : decode cX8_append 34 = .ok (.dup, 1) := by decide +kernel
theorem dX8_append_35 : decode cX8_append 35 = .ok (.getfield 163, 3) := by decide +kernel
theorem dX8_append_38 : decode cX8_append 38 = .ok (.iconst 1, 1) := by decide +kernel
theorem dX8_append_39 : decode cX8_append 39 = .ok (.iadd, 1) := by decide +kernel
theorem dX8_append_40 : decode cX8_append 40 = .ok (.putfield 163, 3) := by decide +kernel
theorem dX8_append_43 : decode cX8_append 43 = .ok (.aload_n 0, 1) := by decide +kernel
theorem dX8_append_44 : decode cX8_append 44 = .ok (.getfield 163, 3) := by decide +kernel
theorem dX8_append_47 : decode cX8_append 47 = .ok (.ireturn, 1) := by decide +kernel
theorem dX8_sign_0 : decode cX8_sign 0 = .ok (.aload_n 0, 1) := by decide +kernel
theorem dX8_sign_1 : decode cX8_sign 1 = .ok (.getfield 166, 3) := by decide +kernel
theorem dX8_sign_4 : decode cX8_sign 4 = .ok (.aload_n 0, 1) := by decide +kernel
theorem dX8_sign_5 : decode cX8_sign 5 = .ok (.getfield 163, 3) := by decide +kernel
theorem dX8_sign_8 : decode cX8_sign 8 = .ok (.if_icmp .ge 15, 3) := by decide +kernel
theorem dX8_sign_11 : decode cX8_sign 11 = .ok (.aload_n 0, 1) := by decide +kernel
theorem dX8_sign_12 : decode cX8_sign 12 = .ok (.getfield 19, 3) := by decide +kernel
theorem dX8_sign_15 : decode cX8_sign 15 = .ok (.aload_n 0, 1) := by decide +kernel
theorem dX8_sign_16 : decode cX8_sign 16 = .ok (.getfield 166, 3) := by decide +kernel
theorem dX8_sign_19 : decode cX8_sign 19 = .ok (.caload, 1) := by decide +kernel
theorem dX8_sign_20 : decode cX8_sign 20 = .ok (.goto 4, 3) := by decide +kernel
theorem dX8_sign_23 : decode cX8_sign 23 = .ok (.iconst (-1), 1) := by decide +kernel
theorem dX8_sign_24 : decode cX8_sign 24 = .ok (.ireturn, 1) := by decide +kernel
theorem dX8_needs_0 : decode cX8_needs 0 = .ok (.aload_n 0, 1) := by decide +kernel
theorem dX8_needs_1 : decode cX8_needs 1 = .ok (.getfield 169, 3) := by decide +kernel
theorem dX8_needs_4 : decode cX8_needs 4 = .ok (.ifCond .lt 4, 3) := by decide +kernel
theorem dX8_needs_7 : decode cX8_needs 7 = .ok (.return_, 1) := by decide +kernel
theorem dX8_needs_8 : decode cX8_needs 8 = .ok (.aload_n 0, 1) := by decide +kernel
theorem dX8_needs_9 : decode cX8_needs 9 = .ok (.invokevirtual 172, 3) := by decide +kernel
theorem dX8_needs_12 : decode cX8_needs 12 = .ok (.iload_n 1, 1) := by decide +kernel
theorem dX8_needs_13 : decode cX8_needs 13 = .ok (.if_icmp .eq 12, 3) := by decide +kernel
theorem dX8_needs_16 : decode cX8_needs 16 = .ok (.aload_n 0, 1) := by decide +kernel
theorem dX8_needs_17 : decode cX8_needs 17 = .ok (.aload_n 0, 1) := by decide +kernel
theorem dX8_needs_18 : decode cX8_needs 18 = .ok (.getfield 166, 3) := by decide +kernel
theorem dX8_needs_21 : decode cX8_needs 21 = .ok (.putfield 169, 3) := by decide +kernel
theorem dX8_needs_24 : decode cX8_needs 24 = .ok (.return_, 1) := by decide +kernel
theorem dX8_needs_25 : decode cX8_needs 25 = .ok (.aload_n 0, 1) := by decide +kernel
theorem dX8_needs_26 : decode cX8_needs 26 = .ok (.dup, 1) := by decide +kernel
theorem dX8_needs_27 : decode cX8_needs 27 = .ok (.getfield 166, 3) := by decide +kernel
theorem dX8_needs_30 : decode cX8_needs 30 = .ok (.iconst 1, 1) := by decide +kernel
theorem dX8_needs_31 : decode cX8_needs 31 = .ok (.iadd, 1) := by decide +kernel
theorem dX8_needs_32 : decode cX8_needs 32 = .ok (.putfield 166, 3) := by decide +kernel
theorem dX8_needs_35 : decode cX8_needs 35 = .ok (.return_, 1) := by decide +kernel
theorem dX8_letters_0 : decode cX8_letters 0 = .ok (.aload_n 0, 1) := by decide +kernel
theorem dX8_letters_1 : decode cX8_letters 1 = .ok (.iload_n 1, 1) := by decide +kernel
theorem dX8_letters_2 : decode cX8_letters 2 = .ok (.invokevirtual 175, 3) := by decide +kernel
theorem dX8_letters_5 : decode cX8_letters 5 = .ok (.aload_n 0, 1) := by decide +kernel
theorem dX8_letters_6 : decode cX8_letters 6 = .ok (.iload_n 2, 1) := by decide +kernel
theorem dX8_letters_7 : decode cX8_letters 7 = .ok (.invokevirtual 175, 3) := by decide +kernel
theorem dX8_letters_10 : decode cX8_letters 10 = .ok (.aload_n 0, 1) := by decide +kernel
theorem dX8_letters_11 : decode cX8_letters 11 = .ok (.iload_n 3, 1) := by decide +kernel
theorem dX8_letters_12 : decode cX8_letters 12 = .ok (.invokevirtual 175, 3) := by decide +kernel
theorem dX8_letters_15 : decode cX8_letters 15 = .ok (.return_, 1) := by decide +kernel
theorem dX8_number_0 : decode cX8_number 0 = .ok (.aload_n 0, 1) := by decide +kernel
theorem dX8_number_1 : decode cX8_number 1 = .ok (.bipush 32, 2) := by decide +kernel
theorem dX8_number_3 : decode cX8_number 3 = .ok (.invokevirtual 175, 3) := by decide +kernel
theorem dX8_number_6 : decode cX8_number 6 = .ok (.aload_n 0, 1) := by decide +kernel
theorem dX8_number_7 : decode cX8_number 7 = .ok (.getfield 169, 3) := by decide +kernel
theorem dX8_number_10 : decode cX8_number 10 = .ok (.ifCond .lt 5, 3) := by decide +kernel
theorem dX8_number_13 : decode cX8_number 13 = .ok (.iconst 0, 1) := by decide +kernel
theorem dX8_number_14 : decode cX8_number 14 = .ok (.ireturn, 1) := by decide +kernel
theorem dX8_number_15 : decode cX8_number 15 = .ok (.aload_n 0, 1) := by decide +kernel
theorem dX8_number_16 : decode cX8_number 16 = .ok (.invokevirtual 172, 3) := by decide +kernel
theorem dX8_number_19 : decode cX8_number 19 = .ok (.bipush 48, 2) := by decide +kernel
theorem dX8_number_21 : decode cX8_number 21 = .ok (.bipush 57, 2) := by decide +kernel
theorem dX8_number_23 : decode cX8_number 23 = .ok (.invokestatic 69, 3) := by decide +kernel
theorem dX8_number_26 : decode cX8_number 26 = .ok (.ifCond .ne 13, 3) := by decide +kernel
theorem dX8_number_29 : decode cX8_number 29 = .ok (.aload_n 0, 1) := by decide +kernel
theorem dX8_number_30 : decode cX8_number 30 = .ok (.aload_n 0, 1) := by decide +kernel
theorem dX8_number_31 : decode cX8_number 31 = .ok (.getfield 166, 3) := by decide +kernel
theorem dX8_number_34 : decode cX8_number 34 = .ok (.putfield 169, 3) := by decide +kernel
theorem dX8_number_37 : decode cX8_number 37 = .ok (.iconst 0, 1) := by decide +kernel
theorem dX8_number_38 : decode cX8_number 38 = .ok (.ireturn, 1) := by decide +kernel
theorem dX8_number_39 : decode cX8_number 39 = .ok (.iconst 0, 1) := by decide +kernel
theorem dX8_number_40 : decode cX8_number 40 = .ok (.istore_n 2, 1) := by decide +kernel
theorem dX8_number_41 : decode cX8_number 41 = .ok (.iconst 0, 1) := by decide +kernel
theorem dX8_number_42 : decode cX8_number 42 = .ok (.istore_n 3, 1) := by decide +kernel
theorem dX8_number_43 : decode cX8_number 43 = .ok (.iload_n 3, 1) := by decide +kernel
theorem dX8_number_44 : decode cX8_number 44 = .ok (.iload_n 1, 1) := by decide +kernel
theorem dX8_number_45 : decode cX8_number 45 = .ok (.if_icmp .ge 46, 3) := by decide +kernel
theorem dX8_number_48 : decode cX8_number 48 = .ok (.aload_n 0, 1) := by decide +kernel
theorem dX8_number_49 : decode cX8_number 49 = .ok (.invokevirtual 172, 3) := by decide +kernel
theorem dX8_number_52 : decode cX8_number 52 = .ok (.bipush 48, 2) := by decide +kernel
theorem dX8_number_54 : decode cX8_number 54 = .ok (.bipush 57, 2) := by decide +kernel
theorem dX8_number_56 : decode cX8_number 56 = .ok (.invokestatic 69, 3) := by decide +kernel
theorem dX8_number_59 : decode cX8_number 59 = .ok (.ifCond .eq 32, 3) := by decide +kernel
theorem dX8_number_62 : decode cX8_number 62 = .ok (.bipush 10, 2) := by decide +kernel
theorem dX8_number_64 : decode cX8_number 64 = .ok (.iload_n 2, 1) := by decide +kernel
