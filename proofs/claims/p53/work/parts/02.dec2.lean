theorem dX6_planByDays_19 : decode cX6_planByDays 19 = .ok (.istore_n 2, 1) := by decide +kernel
theorem dX6_planByDays_20 : decode cX6_planByDays 20 = .ok (.iload_n 2, 1) := by decide +kernel
theorem dX6_planByDays_21 : decode cX6_planByDays 21 = .ok (.ifCond .le 103, 3) := by decide +kernel
theorem dX6_planByDays_24 : decode cX6_planByDays 24 = .ok (.aload_n 0, 1) := by decide +kernel
theorem dX6_planByDays_25 : decode cX6_planByDays 25 = .ok (.getfield 24, 3) := by decide +kernel
theorem dX6_planByDays_28 : decode cX6_planByDays 28 = .ok (.iload_n 2, 1) := by decide +kernel
theorem dX6_planByDays_29 : decode cX6_planByDays 29 = .ok (.aload_n 0, 1) := by decide +kernel
theorem dX6_planByDays_30 : decode cX6_planByDays 30 = .ok (.getfield 24, 3) := by decide +kernel
theorem dX6_planByDays_33 : decode cX6_planByDays 33 = .ok (.iload_n 2, 1) := by decide +kernel
theorem dX6_planByDays_34 : decode cX6_planByDays 34 = .ok (.iconst 1, 1) := by decide +kernel
theorem dX6_planByDays_35 : decode cX6_planByDays 35 = .ok (.iadd, 1) := by decide +kernel
theorem dX6_planByDays_36 : decode cX6_planByDays 36 = .ok (.iaload, 1) := by decide +kernel
theorem dX6_planByDays_37 : decode cX6_planByDays 37 = .ok (.iastore, 1) := by decide +kernel
theorem dX6_planByDays_38 : decode cX6_planByDays 38 = .ok (.aload_n 0, 1) := by decide +kernel
theorem dX6_planByDays_39 : decode cX6_planByDays 39 = .ok (.getfield 27, 3) := by decide +kernel
theorem dX6_planByDays_42 : decode cX6_planByDays 42 = .ok (.iload_n 2, 1) := by decide +kernel
theorem dX6_planByDays_43 : decode cX6_planByDays 43 = .ok (.aload_n 0, 1) := by decide +kernel
theorem dX6_planByDays_44 : decode cX6_planByDays 44 = .ok (.getfield 27, 3) := by decide +kernel
theorem dX6_planByDays_47 : decode cX6_planByDays 47 = .ok (.iload_n 2, 1) := by decide +kernel
theorem dX6_planByDays_48 : decode cX6_planByDays 48 = .ok (.iconst 1, 1) := by decide +kernel
theorem dX6_planByDays_49 : decode cX6_planByDays 49 = .ok (.iadd, 1) := by decide +kernel
theorem dX6_planByDays_50 : decode cX6_planByDays 50 = .ok (.iaload, 1) := by decide +kernel
theorem dX6_planByDays_51 : decode cX6_planByDays 51 = .ok (.iastore, 1) := by decide +kernel
theorem dX6_planByDays_52 : decode cX6_planByDays 52 = .ok (.iconst 0, 1) := by decide +kernel
theorem dX6_planByDays_53 : decode cX6_planByDays 53 = .ok (.istore_n 3, 1) := by decide +kernel
theorem dX6_planByDays_54 : decode cX6_planByDays 54 = .ok (.iload_n 3, 1) := by decide +kernel
theorem dX6_planByDays_55 : decode cX6_planByDays 55 = .ok (.aload_n 0, 1) := by decide +kernel
theorem dX6_planByDays_56 : decode cX6_planByDays 56 = .ok (.getfield 30, 3) := by decide +kernel
theorem dX6_planByDays_59 : decode cX6_planByDays 59 = .ok (.if_icmp .ge 59, 3) := by decide +kernel
theorem dX6_planByDays_62 : decode cX6_planByDays 62 = .ok (.aload_n 0, 1) := by decide +kernel
theorem dX6_planByDays_63 : decode cX6_planByDays 63 = .ok (.getfield 11, 3) := by decide +kernel
theorem dX6_planByDays_66 : decode cX6_planByDays 66 = .ok (.iload_n 3, 1) := by decide +kernel
theorem dX6_planByDays_67 : decode cX6_planByDays 67 = .ok (.iaload, 1) := by decide +kernel
theorem dX6_planByDays_68 : decode cX6_planByDays 68 = .ok (.iload_n 2, 1) := by decide +kernel
theorem dX6_planByDays_69 : decode cX6_planByDays 69 = .ok (.if_icmp .ne 43, 3) := by decide +kernel
theorem dX6_planByDays_72 : decode cX6_planByDays 72 = .ok (.aload_n 0, 1) := by decide +kernel
theorem dX6_planByDays_73 : decode cX6_planByDays 73 = .ok (.iload_n 2, 1) := by decide +kernel
theorem dX6_planByDays_74 : decode cX6_planByDays 74 = .ok (.aload_n 0, 1) := by decide +kernel
theorem dX6_planByDays_75 : decode cX6_planByDays 75 = .ok (.getfield 18, 3) := by decide +kernel
theorem dX6_planByDays_78 : decode cX6_planByDays 78 = .ok (.iload_n 3, 1) := by decide +kernel
theorem dX6_planByDays_79 : decode cX6_planByDays 79 = .ok (.iaload, 1) := by decide +kernel
theorem dX6_planByDays_80 : decode cX6_planByDays 80 = .ok (.aload_n 0, 1) := by decide +kernel
theorem dX6_planByDays_81 : decode cX6_planByDays 81 = .ok (.getfield 24, 3) := by decide +kernel
theorem dX6_planByDays_84 : decode cX6_planByDays 84 = .ok (.aload_n 0, 1) := by decide +kernel
theorem dX6_planByDays_85 : decode cX6_planByDays 85 = .ok (.getfield 15, 3) := by decide +kernel
theorem dX6_planByDays_88 : decode cX6_planByDays 88 = .ok (.iload_n 3, 1) := by decide +kernel
theorem dX6_planByDays_89 : decode cX6_planByDays 89 = .ok (.iaload, 1) := by decide +kernel
theorem dX6_planByDays_90 : decode cX6_planByDays 90 = .ok (.iconst 1, 1) := by decide +kernel
theorem dX6_planByDays_91 : decode cX6_planByDays 91 = .ok (.iadd, 1) := by decide +kernel
theorem dX6_planByDays_92 : decode cX6_planByDays 92 = .ok (.iaload, 1) := by decide +kernel
theorem dX6_planByDays_93 : decode cX6_planByDays 93 = .ok (.iadd, 1) := by decide +kernel
theorem dX6_planByDays_94 : decode cX6_planByDays 94 = .ok (.iconst 1, 1) := by decide +kernel
theorem dX6_planByDays_95 : decode cX6_planByDays 95 = .ok (.aload_n 0, 1) := by decide +kernel
theorem dX6_planByDays_96 : decode cX6_planByDays 96 = .ok (.getfield 27, 3) := by decide +kernel
theorem dX6_planByDays_99 : decode cX6_planByDays 99 = .ok (.aload_n 0, 1) := by decide +kernel
theorem dX6_planByDays_100 : decode cX6_planByDays 100 = .ok (.getfield 15, 3) := by decide +kernel
theorem dX6_planByDays_103 : decode cX6_planByDays 103 = .ok (.iload_n 3, 1) := by decide +kernel
theorem dX6_planByDays_104 : decode cX6_planByDays 104 = .ok (.iaload, 1) := by decide +kernel
theorem dX6_planByDays_105 : decode cX6_planByDays 105 = .ok (.iconst 1, 1) := by decide +kernel
theorem dX6_planByDays_106 : decode cX6_planByDays 106 = .ok (.iadd, 1) := by decide +kernel
theorem dX6_planByDays_107 : decode cX6_planByDays 107 = .ok (.iaload, 1) := by decide +kernel
theorem dX6_planByDays_108 : decode cX6_planByDays 108 = .ok (.iadd, 1) := by decide +kernel
theorem dX6_planByDays_109 : decode cX6_planByDays 109 = .ok (.invokevirtual 72, 3) := by decide +kernel
theorem dX6_planByDays_112 : decode cX6_planByDays 112 = .ok (.iinc 3 1, 3) := by decide +kernel
theorem dX6_planByDays_115 : decode cX6_planByDays 115 = .ok (.goto (-61), 3) := by decide +kernel
theorem dX6_planByDays_118 : decode cX6_planByDays 118 = .ok (.iinc 2 (-1), 3) := by decide +kernel
theorem dX6_planByDays_121 : decode cX6_planByDays 121 = .ok (.goto (-101), 3) := by decide +kernel
theorem dX6_planByDays_124 : decode cX6_planByDays 124 = .ok (.return_, 1) := by decide +kernel
theorem dX6_offer_0 : decode cX6_offer 0 = .ok (.iload_n 2, 1) := by decide +kernel
theorem dX6_offer_1 : decode cX6_offer 1 = .ok (.aload_n 0, 1) := by decide +kernel
theorem dX6_offer_2 : decode cX6_offer 2 = .ok (.getfield 24, 3) := by decide +kernel
theorem dX6_offer_5 : decode cX6_offer 5 = .ok (.iload_n 1, 1) := by decide +kernel
theorem dX6_offer_6 : decode cX6_offer 6 = .ok (.iaload, 1) := by decide +kernel
theorem dX6_offer_7 : decode cX6_offer 7 = .ok (.if_icmp .gt 23, 3) := by decide +kernel
theorem dX6_offer_10 : decode cX6_offer 10 = .ok (.iload_n 2, 1) := by decide +kernel
theorem dX6_offer_11 : decode cX6_offer 11 = .ok (.aload_n 0, 1) := by decide +kernel
theorem dX6_offer_12 : decode cX6_offer 12 = .ok (.getfield 24, 3) := by decide +kernel
theorem dX6_offer_15 : decode cX6_offer 15 = .ok (.iload_n 1, 1) := by decide +kernel
theorem dX6_offer_16 : decode cX6_offer 16 = .ok (.iaload, 1) := by decide +kernel
theorem dX6_offer_17 : decode cX6_offer 17 = .ok (.if_icmp .ne 27, 3) := by decide +kernel
theorem dX6_offer_20 : decode cX6_offer 20 = .ok (.iload_n 3, 1) := by decide +kernel
theorem dX6_offer_21 : decode cX6_offer 21 = .ok (.aload_n 0, 1) := by decide +kernel
theorem dX6_offer_22 : decode cX6_offer 22 = .ok (.getfield 27, 3) := by decide +kernel
theorem dX6_offer_25 : decode cX6_offer 25 = .ok (.iload_n 1, 1) := by decide +kernel
theorem dX6_offer_26 : decode cX6_offer 26 = .ok (.iaload, 1) := by decide +kernel
theorem dX6_offer_27 : decode cX6_offer 27 = .ok (.if_icmp .ge 17, 3) := by decide +kernel
theorem dX6_offer_30 : decode cX6_offer 30 = .ok (.aload_n 0, 1) := by decide +kernel
theorem dX6_offer_31 : decode cX6_offer 31 = .ok (.getfield 24, 3) := by decide +kernel
theorem dX6_offer_34 : decode cX6_offer 34 = .ok (.iload_n 1, 1) := by decide +kernel
theorem dX6_offer_35 : decode cX6_offer 35 = .ok (.iload_n 2, 1) := by decide +kernel
theorem dX6_offer_36 : decode cX6_offer 36 = .ok (.iastore, 1) := by decide +kernel
theorem dX6_offer_37 : decode cX6_offer 37 = .ok (.aload_n 0, 1) := by decide +kernel
theorem dX6_offer_38 : decode cX6_offer 38 = .ok (.getfield 27, 3) := by decide +kernel
theorem dX6_offer_41 : decode cX6_offer 41 = .ok (.iload_n 1, 1) := by decide +kernel
theorem dX6_offer_42 : decode cX6_offer 42 = .ok (.iload_n 3, 1) := by decide +kernel
theorem dX6_offer_43 : decode cX6_offer 43 = .ok (.iastore, 1) := by decide +kernel
theorem dX6_offer_44 : decode cX6_offer 44 = .ok (.return_, 1) := by decide +kernel
theorem dX7_init_0 : decode cX7_init 0 = .ok (.aload_n 0, 1) := by decide +kernel
theorem dX7_init_1 : decode cX7_init 1 = .ok (.invokespecial 1, 3) := by decide +kernel
theorem dX7_init_4 : decode cX7_init 4 = .ok (.aload_n 0, 1) := by decide +kernel
theorem dX7_init_5 : decode cX7_init 5 = .ok (.new 7, 3) := by decide +kernel
theorem dX7_init_8 : decode cX7_init 8 = .ok (.dup, 1) := by decide +kernel
theorem dX7_init_9 : decode cX7_init 9 = .ok (.invokespecial 9, 3) := by decide +kernel
theorem dX7_init_12 : decode cX7_init 12 = .ok (.putfield 10, 3) := by decide +kernel
theorem dX7_init_15 : decode cX7_init 15 = .ok (.aload_n 0, 1) := by decide +kernel
theorem dX7_init_16 : decode cX7_init 16 = .ok (.new 7, 3) := by decide +kernel
theorem dX7_init_19 : decode cX7_init 19 = .ok (.dup, 1) := by decide +kernel
theorem dX7_init_20 : decode cX7_init 20 = .ok (.invokespecial 9, 3) := by decide +kernel
theorem dX7_init_23 : decode cX7_init 23 = .ok (.putfield 16, 3) := by decide +kernel
theorem dX7_init_26 : decode cX7_init 26 = .ok (.aload_n 0, 1) := by decide +kernel
theorem dX7_init_27 : decode cX7_init 27 = .ok (.new 7, 3) := by decide +kernel
theorem dX7_init_30 : decode cX7_init 30 = .ok (.dup, 1) := by decide +kernel
theorem dX7_init_31 : decode cX7_init 31 = .ok (.invokespecial 9, 3) := by decide +kernel
theorem dX7_init_34 : decode cX7_init 34 = .ok (.putfield 19, 3) := by decide +kernel
theorem dX7_init_37 : decode cX7_init 37 = .ok (.aload_n 0, 1) := by decide +kernel
theorem dX7_init_38 : decode cX7_init 38 = .ok (.new 22, 3) := by decide +kernel
theorem dX7_init_41 : decode cX7_init 41 = .ok (.dup, 1) := by decide +kernel
theorem dX7_init_42 : decode cX7_init 42 = .ok (.invokespecial 24, 3) := by decide +kernel
theorem dX7_init_45 : decode cX7_init 45 = .ok (.putfield 25, 3) := by decide +kernel
theorem dX7_init_48 : decode cX7_init 48 = .ok (.aload_n 0, 1) := by decide +kernel
theorem dX7_init_49 : decode cX7_init 49 = .ok (.new 29, 3) := by decide +kernel
theorem dX7_init_52 : decode cX7_init 52 = .ok (.dup, 1) := by decide +kernel
theorem dX7_init_53 : decode cX7_init 53 = .ok (.invokespecial 31, 3) := by decide +kernel
theorem dX7_init_56 : decode cX7_init 56 = .ok (.putfield 32, 3) := by decide +kernel
theorem dX7_init_59 : decode cX7_init 59 = .ok (.aload_n 0, 1) := by decide +kernel
theorem dX7_init_60 : decode cX7_init 60 = .ok (.new 36, 3) := by decide +kernel
theorem dX7_init_63 : decode cX7_init 63 = .ok (.dup, 1) := by decide +kernel
theorem dX7_init_64 : decode cX7_init 64 = .ok (.invokespecial 38, 3) := by decide +kernel
theorem dX7_init_67 : decode cX7_init 67 = .ok (.putfield 39, 3) := by decide +kernel
theorem dX7_init_70 : decode cX7_init 70 = .ok (.aload_n 0, 1) := by decide +kernel
theorem dX7_init_71 : decode cX7_init 71 = .ok (.new 43, 3) := by decide +kernel
theorem dX7_init_74 : decode cX7_init 74 = .ok (.dup, 1) := by decide +kernel
theorem dX7_init_75 : decode cX7_init 75 = .ok (.invokespecial 45, 3) := by decide +kernel
theorem dX7_init_78 : decode cX7_init 78 = .ok (.putfield 46, 3) := by decide +kernel
theorem dX7_init_81 : decode cX7_init 81 = .ok (.aload_n 0, 1) := by decide +kernel
theorem dX7_init_82 : decode cX7_init 82 = .ok (.iconst 0, 1) := by decide +kernel
theorem dX7_init_83 : decode cX7_init 83 = .ok (.putfield 50, 3) := by decide +kernel
theorem dX7_init_86 : decode cX7_init 86 = .ok (.aload_n 0, 1) := by decide +kernel
theorem dX7_init_87 : decode cX7_init 87 = .ok (.iconst (-1), 1) := by decide +kernel
theorem dX7_init_88 : decode cX7_init 88 = .ok (.putfield 54, 3) := by decide +kernel
theorem dX7_init_91 : decode cX7_init 91 = .ok (.aload_n 0, 1) := by decide +kernel
theorem dX7_init_92 : decode cX7_init 92 = .ok (.iconst (-1), 1) := by decide +kernel
theorem dX7_init_93 : decode cX7_init 93 = .ok (.putfield 58, 3) := by decide +kernel
theorem dX7_init_96 : decode cX7_init 96 = .ok (.return_, 1) := by decide +kernel
theorem dX7_addComet_0 : decode cX7_addComet 0 = .ok (.iload_n 1, 1) := by decide +kernel
theorem dX7_addComet_1 : decode cX7_addComet 1 = .ok (.iload_n 2, 1) := by decide +kernel
theorem dX7_addComet_2 : decode cX7_addComet 2 = .ok (.iload_n 3, 1) := by decide +kernel
theorem dX7_addComet_3 : decode cX7_addComet 3 = .ok (.invokestatic 61, 3) := by decide +kernel
theorem dX7_addComet_6 : decode cX7_addComet 6 = .ok (.ifCond .ne 13, 3) := by decide +kernel
theorem dX7_addComet_9 : decode cX7_addComet 9 = .ok (.new 65, 3) := by decide +kernel
theorem dX7_addComet_12 : decode cX7_addComet 12 = .ok (.dup, 1) := by decide +kernel
theorem dX7_addComet_13 : decode cX7_addComet 13 = .ok (.ldc 67, 2) := by decide +kernel
theorem dX7_addComet_15 : decode cX7_addComet 15 = .ok (.invokespecial 69, 3) := by decide +kernel
theorem dX7_addComet_18 : decode cX7_addComet 18 = .ok (.athrow, 1) := by decide +kernel
theorem dX7_addComet_19 : decode cX7_addComet 19 = .ok (.aload_n 0, 1) := by decide +kernel
theorem dX7_addComet_20 : decode cX7_addComet 20 = .ok (.getfield 10, 3) := by decide +kernel
theorem dX7_addComet_23 : decode cX7_addComet 23 = .ok (.invokevirtual 72, 3) := by decide +kernel
theorem dX7_addComet_26 : decode cX7_addComet 26 = .ok (.ifCond .ne 13, 3) := by decide +kernel
theorem dX7_addComet_29 : decode cX7_addComet 29 = .ok (.new 76, 3) := by decide +kernel
theorem dX7_addComet_32 : decode cX7_addComet 32 = .ok (.dup, 1) := by decide +kernel
theorem dX7_addComet_33 : decode cX7_addComet 33 = .ok (.ldc 78, 2) := by decide +kernel
theorem dX7_addComet_35 : decode cX7_addComet 35 = .ok (.invokespecial 80, 3) := by decide +kernel
theorem dX7_addComet_38 : decode cX7_addComet 38 = .ok (.athrow, 1) := by decide +kernel
theorem dX7_addComet_39 : decode cX7_addComet 39 = .ok (.aload_n 0, 1) := by decide +kernel
theorem dX7_addComet_40 : decode cX7_addComet 40 = .ok (.getfield 25, 3) := by decide +kernel
theorem dX7_addComet_43 : decode cX7_addComet 43 = .ok (.aload_n 0, 1) := by decide +kernel
theorem dX7_addComet_44 : decode cX7_addComet 44 = .ok (.getfield 10, 3) := by decide +kernel
theorem dX7_addComet_47 : decode cX7_addComet 47 = .ok (.invokevirtual 81, 3) := by decide +kernel
theorem dX7_addComet_50 : decode cX7_addComet 50 = .ok (.aload_n 0, 1) := by decide +kernel
theorem dX7_addComet_51 : decode cX7_addComet 51 = .ok (.getfield 10, 3) := by decide +kernel
theorem dX7_addComet_54 : decode cX7_addComet 54 = .ok (.iload_n 1, 1) := by decide +kernel
theorem dX7_addComet_55 : decode cX7_addComet 55 = .ok (.iload_n 2, 1) := by decide +kernel
theorem dX7_addComet_56 : decode cX7_addComet 56 = .ok (.iload_n 3, 1) := by decide +kernel
theorem dX7_addComet_57 : decode cX7_addComet 57 = .ok (.invokevirtual 85, 3) := by decide +kernel
theorem dX7_addComet_60 : decode cX7_addComet 60 = .ok (.ireturn, 1) := by decide +kernel
theorem dX7_remove_0 : decode cX7_remove 0 = .ok (.aload_n 0, 1) := by decide +kernel
theorem dX7_remove_1 : decode cX7_remove 1 = .ok (.iload_n 1, 1) := by decide +kernel
theorem dX7_remove_2 : decode cX7_remove 2 = .ok (.invokevirtual 89, 3) := by decide +kernel
theorem dX7_remove_5 : decode cX7_remove 5 = .ok (.astore_n 2, 1) := by decide +kernel
theorem dX7_remove_6 : decode cX7_remove 6 = .ok (.aload_n 0, 1) := by decide +kernel
theorem dX7_remove_7 : decode cX7_remove 7 = .ok (.getfield 25, 3) := by decide +kernel
theorem dX7_remove_10 : decode cX7_remove 10 = .ok (.aload_n 0, 1) := by decide +kernel
theorem dX7_remove_11 : decode cX7_remove 11 = .ok (.getfield 10, 3) := by decide +kernel
theorem dX7_remove_14 : decode cX7_remove 14 = .ok (.invokevirtual 81, 3) := by decide +kernel
theorem dX7_remove_17 : decode cX7_remove 17 = .ok (.aload_n 0, 1) := by decide +kernel
theorem dX7_remove_18 : decode cX7_remove 18 = .ok (.getfield 10, 3) := by decide +kernel
theorem dX7_remove_21 : decode cX7_remove 21 = .ok (.aload_n 2, 1) := by decide +kernel
theorem dX7_remove_22 : decode cX7_remove 22 = .ok (.getfield 93, 3) := by decide +kernel
theorem dX7_remove_25 : decode cX7_remove 25 = .ok (.invokevirtual 98, 3) := by decide +kernel
theorem dX7_remove_28 : decode cX7_remove 28 = .ok (.pop, 1) := by decide +kernel
theorem dX7_remove_29 : decode cX7_remove 29 = .ok (.aload_n 0, 1) := by decide +kernel
theorem dX7_remove_30 : decode cX7_remove 30 = .ok (.getfield 10, 3) := by decide +kernel
theorem dX7_remove_33 : decode cX7_remove 33 = .ok (.getfield 102, 3) := by decide +kernel
theorem dX7_remove_36 : decode cX7_remove 36 = .ok (.ireturn, 1) := by decide +kernel
theorem dX7_setPeriod_0 : decode cX7_setPeriod 0 = .ok (.aload_n 0, 1) := by decide +kernel
theorem dX7_setPeriod_1 : decode cX7_setPeriod 1 = .ok (.iload_n 1, 1) := by decide +kernel
theorem dX7_setPeriod_2 : decode cX7_setPeriod 2 = .ok (.invokevirtual 89, 3) := by decide +kernel
theorem dX7_setPeriod_5 : decode cX7_setPeriod 5 = .ok (.astore_n 3, 1) := by decide +kernel
theorem dX7_setPeriod_6 : decode cX7_setPeriod 6 = .ok (.iload_n 2, 1) := by decide +kernel
theorem dX7_setPeriod_7 : decode cX7_setPeriod 7 = .ok (.invokestatic 105, 3) := by decide +kernel
theorem dX7_setPeriod_10 : decode cX7_setPeriod 10 = .ok (.ifCond .ne 13, 3) := by decide +kernel
theorem dX7_setPeriod_13 : decode cX7_setPeriod 13 = .ok (.new 65, 3) := by decide +kernel
theorem dX7_setPeriod_16 : decode cX7_setPeriod 16 = .ok (.dup, 1) := by decide +kernel
theorem dX7_setPeriod_17 : decode cX7_setPeriod 17 = .ok (.ldc 108, 2) := by decide +kernel
theorem dX7_setPeriod_19 : decode cX7_setPeriod 19 = .ok (.invokespecial 69, 3) := by decide +kernel
theorem dX7_setPeriod_22 : decode cX7_setPeriod 22 = .ok (.athrow, 1) := by decide +kernel
theorem dX7_setPeriod_23 : decode cX7_setPeriod 23 = .ok (.aload_n 0, 1) := by decide +kernel
theorem dX7_setPeriod_24 : decode cX7_setPeriod 24 = .ok (.getfield 25, 3) := by decide +kernel
theorem dX7_setPeriod_27 : decode cX7_setPeriod 27 = .ok (.aload_n 0, 1) := by decide +kernel
theorem dX7_setPeriod_28 : decode cX7_setPeriod 28 = .ok (.getfield 10, 3) := by decide +kernel
theorem dX7_setPeriod_31 : decode cX7_setPeriod 31 = .ok (.invokevirtual 81, 3) := by decide +kernel
theorem dX7_setPeriod_34 : decode cX7_setPeriod 34 = .ok (.aload_n 3, 1) := by decide +kernel
theorem dX7_setPeriod_35 : decode cX7_setPeriod 35 = .ok (.getfield 110, 3) := by decide +kernel
theorem dX7_setPeriod_38 : decode cX7_setPeriod 38 = .ok (.istore 4, 2) := by decide +kernel
theorem dX7_setPeriod_40 : decode cX7_setPeriod 40 = .ok (.aload_n 3, 1) := by decide +kernel
theorem dX7_setPeriod_41 : decode cX7_setPeriod 41 = .ok (.iload_n 2, 1) := by decide +kernel
theorem dX7_setPeriod_42 : decode cX7_setPeriod 42 = .ok (.putfield 110, 3) := by decide +kernel
theorem dX7_setPeriod_45 : decode cX7_setPeriod 45 = .ok (.iload 4, 2) := by decide +kernel
theorem dX7_setPeriod_47 : decode cX7_setPeriod 47 = .ok (.ireturn, 1) := by decide +kernel
theorem dX7_brighten_0 : decode cX7_brighten 0 = .ok (.aload_n 0, 1) := by decide +kernel
theorem dX7_brighten_1 : decode cX7_brighten 1 = .ok (.iload_n 1, 1) := by decide +kernel
theorem dX7_brighten_2 : decode cX7_brighten 2 = .ok (.invokevirtual 89, 3) := by decide +kernel
theorem dX7_brighten_5 : decode cX7_brighten 5 = .ok (.astore_n 3, 1) := by decide +kernel
theorem dX7_brighten_6 : decode cX7_brighten 6 = .ok (.iload_n 2, 1) := by decide +kernel
theorem dX7_brighten_7 : decode cX7_brighten 7 = .ok (.invokestatic 113, 3) := by decide +kernel
theorem dX7_brighten_10 : decode cX7_brighten 10 = .ok (.ifCond .ne 13, 3) := by decide +kernel
theorem dX7_brighten_13 : decode cX7_brighten 13 = .ok (.new 65, 3) := by decide +kernel
theorem dX7_brighten_16 : decode cX7_brighten 16 = .ok (.dup, 1) := by decide +kernel
theorem dX7_brighten_17 : decode cX7_brighten 17 = .ok (.ldc 116, 2) := by decide +kernel
theorem dX7_brighten_19 : decode cX7_brighten 19 = .ok (.invokespecial 69, 3) := by decide +kernel
theorem dX7_brighten_22 : decode cX7_brighten 22 = .ok (.athrow, 1) := by decide +kernel
theorem dX7_brighten_23 : decode cX7_brighten 23 = .ok (.aload_n 3, 1) := by decide +kernel
theorem dX7_brighten_24 : decode cX7_brighten 24 = .ok (.iload_n 2, 1) := by decide +kernel
theorem dX7_brighten_25 : decode cX7_brighten 25 = .ok (.invokevirtual 118, 3) := by decide +kernel
theorem dX7_brighten_28 : decode cX7_brighten 28 = .ok (.ifCond .ne 13, 3) := by decide +kernel
theorem dX7_brighten_31 : decode cX7_brighten 31 = .ok (.new 76, 3) := by decide +kernel
theorem dX7_brighten_34 : decode cX7_brighten 34 = .ok (.dup, 1) := by decide +kernel
theorem dX7_brighten_35 : decode cX7_brighten 35 = .ok (.ldc 121, 2) := by decide +kernel
theorem dX7_brighten_37 : decode cX7_brighten 37 = .ok (.invokespecial 80, 3) := by decide +kernel
theorem dX7_brighten_40 : decode cX7_brighten 40 = .ok (.athrow, 1) := by decide +kernel
theorem dX7_brighten_41 : decode cX7_brighten 41 = .ok (.aload_n 0, 1) := by decide +kernel
theorem dX7_brighten_42 : decode cX7_brighten 42 = .ok (.getfield 10, 3) := by decide +kernel
theorem dX7_brighten_45 : decode cX7_brighten 45 = .ok (.iload_n 2, 1) := by decide +kernel
theorem dX7_brighten_46 : decode cX7_brighten 46 = .ok (.invokevirtual 123, 3) := by decide +kernel
theorem dX7_brighten_49 : decode cX7_brighten 49 = .ok (.ifCond .ne 13, 3) := by decide +kernel
theorem dX7_brighten_52 : decode cX7_brighten 52 = .ok (.new 126, 3) := by decide +kernel
theorem dX7_brighten_55 : decode cX7_brighten 55 = .ok (.dup, 1) := by decide +kernel
theorem dX7_brighten_56 : decode cX7_brighten 56 = .ok (.ldc 128, 2) := by decide +kernel
theorem dX7_brighten_58 : decode cX7_brighten 58 = .ok (.invokespecial 130, 3) := by decide +kernel
theorem dX7_brighten_61 : decode cX7_brighten 61 = .ok (.athrow, 1) := by decide +kernel
theorem dX7_brighten_62 : decode cX7_brighten 62 = .ok (.aload_n 0, 1) := by decide +kernel
theorem dX7_brighten_63 : decode cX7_brighten 63 = .ok (.getfield 25, 3) := by decide +kernel
theorem dX7_brighten_66 : decode cX7_brighten 66 = .ok (.aload_n 0, 1) := by decide +kernel
theorem dX7_brighten_67 : decode cX7_brighten 67 = .ok (.getfield 10, 3) := by decide +kernel
theorem dX7_brighten_70 : decode cX7_brighten 70 = .ok (.invokevirtual 81, 3) := by decide +kernel
theorem dX7_brighten_73 : decode cX7_brighten 73 = .ok (.aload_n 0, 1) := by decide +kernel
theorem dX7_brighten_74 : decode cX7_brighten 74 = .ok (.getfield 10, 3) := by decide +kernel
theorem dX7_brighten_77 : decode cX7_brighten 77 = .ok (.aload_n 3, 1) := by decide +kernel
theorem dX7_brighten_78 : decode cX7_brighten 78 = .ok (.iload_n 2, 1) := by decide +kernel
theorem dX7_brighten_79 : decode cX7_brighten 79 = .ok (.invokevirtual 131, 3) := by decide +kernel
theorem dX7_brighten_82 : decode cX7_brighten 82 = .ok (.aload_n 3, 1) := by decide +kernel
theorem dX7_brighten_83 : decode cX7_brighten 83 = .ok (.getfield 135, 3) := by decide +kernel
theorem dX7_brighten_86 : decode cX7_brighten 86 = .ok (.ireturn, 1) := by decide +kernel
theorem dX7_passDays_0 : decode cX7_passDays 0 = .ok (.iload_n 1, 1) := by decide +kernel
theorem dX7_passDays_1 : decode cX7_passDays 1 = .ok (.invokestatic 138, 3) := by decide +kernel
theorem dX7_passDays_4 : decode cX7_passDays 4 = .ok (.ifCond .ne 13, 3) := by decide +kernel
theorem dX7_passDays_7 : decode cX7_passDays 7 = .ok (.new 65, 3) := by decide +kernel
theorem dX7_passDays_10 : decode cX7_passDays 10 = .ok (.dup, 1) := by decide +kernel
theorem dX7_passDays_11 : decode cX7_passDays 11 = .ok (.ldc 141, 2) := by decide +kernel
theorem dX7_passDays_13 : decode cX7_passDays 13 = .ok (.invokespecial 69, 3) := by decide +kernel
theorem dX7_passDays_16 : decode cX7_passDays 16 = .ok (.athrow, 1) := by decide +kernel
theorem dX7_passDays_17 : decode cX7_passDays 17 = .ok (.aload_n 0, 1) := by decide +kernel
theorem dX7_passDays_18 : decode cX7_passDays 18 = .ok (.getfield 25, 3) := by decide +kernel
theorem dX7_passDays_21 : decode cX7_passDays 21 = .ok (.aload_n 0, 1) := by decide +kernel
theorem dX7_passDays_22 : decode cX7_passDays 22 = .ok (.getfield 10, 3) := by decide +kernel
theorem dX7_passDays_25 : decode cX7_passDays 25 = .ok (.invokevirtual 81, 3) := by decide +kernel
theorem dX7_passDays_28 : decode cX7_passDays 28 = .ok (.aload_n 0, 1) := by decide +kernel
theorem dX7_passDays_29 : decode cX7_passDays 29 = .ok (.getfield 10, 3) := by decide +kernel
theorem dX7_passDays_32 : decode cX7_passDays 32 = .ok (.iload_n 1, 1) := by decide +kernel
theorem dX7_passDays_33 : decode cX7_passDays 33 = .ok (.invokevirtual 143, 3) := by decide +kernel
theorem dX7_passDays_36 : decode cX7_passDays 36 = .ok (.ireturn, 1) := by decide +kernel
theorem dX7_clean_0 : decode cX7_clean 0 = .ok (.iload_n 1, 1) := by decide +kernel
theorem dX7_clean_1 : decode cX7_clean 1 = .ok (.invokestatic 147, 3) := by decide +kernel
theorem dX7_clean_4 : decode cX7_clean 4 = .ok (.ifCond .ne 13, 3) := by decide +kernel
theorem dX7_clean_7 : decode cX7_clean 7 = .ok (.new 150, 3) := by decide +kernel
theorem dX7_clean_10 : decode cX7_clean 10 = .ok (.dup, 1) := by decide +kernel
theorem dX7_clean_11 : decode cX7_clean 11 = .ok (.ldc 152, 2) := by decide +kernel
theorem dX7_clean_13 : decode cX7_clean 13 = .ok (.invokespecial 154, 3) := by decide +kernel
theorem dX7_clean_16 : decode cX7_clean 16 = .ok (.athrow, 1) := by decide +kernel
theorem dX7_clean_17 : decode cX7_clean 17 = .ok (.iload_n 2, 1) := by decide +kernel
theorem dX7_clean_18 : decode cX7_clean 18 = .ok (.invokestatic 155, 3) := by decide +kernel
theorem dX7_clean_21 : decode cX7_clean 21 = .ok (.ifCond .ne 13, 3) := by decide +kernel
theorem dX7_clean_24 : decode cX7_clean 24 = .ok (.new 65, 3) := by decide +kernel
theorem dX7_clean_27 : decode cX7_clean 27 = .ok (.dup, 1) := by decide +kernel
theorem dX7_clean_28 : decode cX7_clean 28 = .ok (.ldc 158, 2) := by decide +kernel
theorem dX7_clean_30 : decode cX7_clean 30 = .ok (.invokespecial 69, 3) := by decide +kernel
theorem dX7_clean_33 : decode cX7_clean 33 = .ok (.athrow, 1) := by decide +kernel
theorem dX7_clean_34 : decode cX7_clean 34 = .ok (.aload_n 0, 1) := by decide +kernel
theorem dX7_clean_35 : decode cX7_clean 35 = .ok (.getfield 10, 3) := by decide +kernel
theorem dX7_clean_38 : decode cX7_clean 38 = .ok (.iload_n 1, 1) := by decide +kernel
theorem dX7_clean_39 : decode cX7_clean 39 = .ok (.iload_n 2, 1) := by decide +kernel
theorem dX7_clean_40 : decode cX7_clean 40 = .ok (.invokevirtual 160, 3) := by decide +kernel
theorem dX7_clean_43 : decode cX7_clean 43 = .ok (.ifCond .ne 13, 3) := by decide +kernel
theorem dX7_clean_46 : decode cX7_clean 46 = .ok (.new 76, 3) := by decide +kernel
theorem dX7_clean_49 : decode cX7_clean 49 = .ok (.dup, 1) := by decide +kernel
theorem dX7_clean_50 : decode cX7_clean 50 = .ok (.ldc 128, 2) := by decide +kernel
theorem dX7_clean_52 : decode cX7_clean 52 = .ok (.invokespecial 80, 3) := by decide +kernel
theorem dX7_clean_55 : decode cX7_clean 55 = .ok (.athrow, 1) := by decide +kernel
theorem dX7_clean_56 : decode cX7_clean 56 = .ok (.aload_n 0, 1) := by decide +kernel
theorem dX7_clean_57 : decode cX7_clean 57 = .ok (.getfield 25, 3) := by decide +kernel
theorem dX7_clean_60 : decode cX7_clean 60 = .ok (.aload_n 0, 1) := by decide +kernel
theorem dX7_clean_61 : decode cX7_clean 61 = .ok (.getfield 10, 3) := by decide +kernel
theorem dX7_clean_64 : decode cX7_clean 64 = .ok (.invokevirtual 81, 3) := by decide +kernel
theorem dX7_clean_67 : decode cX7_clean 67 = .ok (.aload_n 0, 1) := by decide +kernel
theorem dX7_clean_68 : decode cX7_clean 68 = .ok (.getfield 10, 3) := by decide +kernel
theorem dX7_clean_71 : decode cX7_clean 71 = .ok (.iload_n 1, 1) := by decide +kernel
theorem dX7_clean_72 : decode cX7_clean 72 = .ok (.iload_n 2, 1) := by decide +kernel
theorem dX7_clean_73 : decode cX7_clean 73 = .ok (.invokevirtual 164, 3) := by decide +kernel
theorem dX7_clean_76 : decode cX7_clean 76 = .ok (.ireturn, 1) := by decide +kernel
theorem dX7_setRate_0 : decode cX7_setRate 0 = .ok (.iload_n 1, 1) := by decide +kernel
theorem dX7_setRate_1 : decode cX7_setRate 1 = .ok (.invokestatic 168, 3) := by decide +kernel
theorem dX7_setRate_4 : decode cX7_setRate 4 = .ok (.ifCond .ne 13, 3) := by decide +kernel
theorem dX7_setRate_7 : decode cX7_setRate 7 = .ok (.new 65, 3) := by decide +kernel
theorem dX7_setRate_10 : decode cX7_setRate 10 = .ok (.dup, 1) := by decide +kernel
theorem dX7_setRate_11 : decode cX7_setRate 11 = .ok (.ldc 171, 2) := by decide +kernel
theorem dX7_setRate_13 : decode cX7_setRate 13 = .ok (.invokespecial 69, 3) := by decide +kernel
theorem dX7_setRate_16 : decode cX7_setRate 16 = .ok (.athrow, 1) := by decide +kernel
theorem dX7_setRate_17 : decode cX7_setRate 17 = .ok (.aload_n 0, 1) := by decide +kernel
theorem dX7_setRate_18 : decode cX7_setRate 18 = .ok (.getfield 25, 3) := by decide +kernel
theorem dX7_setRate_21 : decode cX7_setRate 21 = .ok (.aload_n 0, 1) := by decide +kernel
theorem dX7_setRate_22 : decode cX7_setRate 22 = .ok (.getfield 10, 3) := by decide +kernel
theorem dX7_setRate_25 : decode cX7_setRate 25 = .ok (.invokevirtual 81, 3) := by decide +kernel
theorem dX7_setRate_28 : decode cX7_setRate 28 = .ok (.aload_n 0, 1) := by decide +kernel
theorem dX7_setRate_29 : decode cX7_setRate 29 = .ok (.getfield 10, 3) := by decide +kernel
theorem dX7_setRate_32 : decode cX7_setRate 32 = .ok (.getfield 173, 3) := by decide +kernel
theorem dX7_setRate_35 : decode cX7_setRate 35 = .ok (.istore_n 2, 1) := by decide +kernel
theorem dX7_setRate_36 : decode cX7_setRate 36 = .ok (.aload_n 0, 1) := by decide +kernel
theorem dX7_setRate_37 : decode cX7_setRate 37 = .ok (.getfield 10, 3) := by decide +kernel
theorem dX7_setRate_40 : decode cX7_setRate 40 = .ok (.iload_n 1, 1) := by decide +kernel
theorem dX7_setRate_41 : decode cX7_setRate 41 = .ok (.putfield 173, 3) := by decide +kernel
theorem dX7_setRate_44 : decode cX7_setRate 44 = .ok (.iload_n 2, 1) := by decide +kernel
theorem dX7_setRate_45 : decode cX7_setRate 45 = .ok (.ireturn, 1) := by decide +kernel
theorem dX7_cometCount_0 : decode cX7_cometCount 0 = .ok (.aload_n 0, 1) := by decide +kernel
theorem dX7_cometCount_1 : decode cX7_cometCount 1 = .ok (.getfield 10, 3) := by decide +kernel
theorem dX7_cometCount_4 : decode cX7_cometCount 4 = .ok (.getfield 176, 3) := by decide +kernel
theorem dX7_cometCount_7 : decode cX7_cometCount 7 = .ok (.ireturn, 1) := by decide +kernel
theorem dX7_cometAt_0 : decode cX7_cometAt 0 = .ok (.iload_n 1, 1) := by decide +kernel
theorem dX7_cometAt_1 : decode cX7_cometAt 1 = .ok (.ifCond .lt 14, 3) := by decide +kernel
theorem dX7_cometAt_4 : decode cX7_cometAt 4 = .ok (.iload_n 1, 1) := by decide +kernel
theorem dX7_cometAt_5 : decode cX7_cometAt 5 = .ok (.aload_n 0, 1) := by decide +kernel
theorem dX7_cometAt_6 : decode cX7_cometAt 6 = .ok (.getfield 10, 3) := by decide +kernel
theorem dX7_cometAt_9 : decode cX7_cometAt 9 = .ok (.getfield 176, 3) := by decide +kernel
theorem dX7_cometAt_12 : decode cX7_cometAt 12 = .ok (.if_icmp .lt 13, 3) := by decide +kernel
theorem dX7_cometAt_15 : decode cX7_cometAt 15 = .ok (.new 150, 3) := by decide +kernel
theorem dX7_cometAt_18 : decode cX7_cometAt 18 = .ok (.dup, 1) := by decide +kernel
theorem dX7_cometAt_19 : decode cX7_cometAt 19 = .ok (.ldc 179, 2) := by decide +kernel
theorem dX7_cometAt_21 : decode cX7_cometAt 21 = .ok (.invokespecial 154, 3) := by decide +kernel
theorem dX7_cometAt_24 : decode cX7_cometAt 24 = .ok (.athrow, 1) := by decide +kernel
theorem dX7_cometAt_25 : decode cX7_cometAt 25 = .ok (.aload_n 0, 1) := by decide +kernel
theorem dX7_cometAt_26 : decode cX7_cometAt 26 = .ok (.getfield 10, 3) := by decide +kernel
theorem dX7_cometAt_29 : decode cX7_cometAt 29 = .ok (.getfield 181, 3) := by decide +kernel
theorem dX7_cometAt_32 : decode cX7_cometAt 32 = .ok (.iload_n 1, 1) := by decide +kernel
theorem dX7_cometAt_33 : decode cX7_cometAt 33 = .ok (.aaload, 1) := by decide +kernel
theorem dX7_cometAt_34 : decode cX7_cometAt 34 = .ok (.getfield 93, 3) := by decide +kernel
theorem dX7_cometAt_37 : decode cX7_cometAt 37 = .ok (.ireturn, 1) := by decide +kernel
theorem dX7_exists_0 : decode cX7_exists 0 = .ok (.aload_n 0, 1) := by decide +kernel
theorem dX7_exists_1 : decode cX7_exists 1 = .ok (.getfield 10, 3) := by decide +kernel
theorem dX7_exists_4 : decode cX7_exists 4 = .ok (.iload_n 1, 1) := by decide +kernel
theorem dX7_exists_5 : decode cX7_exists 5 = .ok (.invokevirtual 185, 3) := by decide +kernel
theorem dX7_exists_8 : decode cX7_exists 8 = .ok (.iconst (-1), 1) := by decide +kernel
theorem dX7_exists_9 : decode cX7_exists 9 = .ok (.if_icmp .eq 7, 3) := by decide +kernel
theorem dX7_exists_12 : decode cX7_exists 12 = .ok (.iconst 1, 1) := by decide +kernel
theorem dX7_exists_13 : decode cX7_exists 13 = .ok (.goto 4, 3) := by decide +kernel
theorem dX7_exists_16 : decode cX7_exists 16 = .ok (.iconst 0, 1) := by decide +kernel
theorem dX7_exists_17 : decode cX7_exists 17 = .ok (.ireturn, 1) := by decide +kernel
theorem dX7_period_0 : decode cX7_period 0 = .ok (.aload_n 0, 1) := by decide +kernel
theorem dX7_period_1 : decode cX7_period 1 = .ok (.iload_n 1, 1) := by decide +kernel
theorem dX7_period_2 : decode cX7_period 2 = .ok (.invokevirtual 89, 3) := by decide +kernel
theorem dX7_period_5 : decode cX7_period 5 = .ok (.getfield 110, 3) := by decide +kernel
theorem dX7_period_8 : decode cX7_period 8 = .ok (.ireturn, 1) := by decide +kernel
theorem dX7_brightness_0 : decode cX7_brightness 0 = .ok (.aload_n 0, 1) := by decide +kernel
theorem dX7_brightness_1 : decode cX7_brightness 1 = .ok (.iload_n 1, 1) := by decide +kernel
theorem dX7_brightness_2 : decode cX7_brightness 2 = .ok (.invokevirtual 89, 3) := by decide +kernel
theorem dX7_brightness_5 : decode cX7_brightness 5 = .ok (.getfield 135, 3) := by decide +kernel
theorem dX7_brightness_8 : decode cX7_brightness 8 = .ok (.ireturn, 1) := by decide +kernel
theorem dX7_tail_0 : decode cX7_tail 0 = .ok (.aload_n 0, 1) := by decide +kernel
theorem dX7_tail_1 : decode cX7_tail 1 = .ok (.iload_n 1, 1) := by decide +kernel
theorem dX7_tail_2 : decode cX7_tail 2 = .ok (.invokevirtual 89, 3) := by decide +kernel
theorem dX7_tail_5 : decode cX7_tail 5 = .ok (.getfield 135, 3) := by decide +kernel
theorem dX7_tail_8 : decode cX7_tail 8 = .ok (.invokestatic 188, 3) := by decide +kernel
theorem dX7_tail_11 : decode cX7_tail 11 = .ok (.ireturn, 1) := by decide +kernel
theorem dX7_nextPass_0 : decode cX7_nextPass 0 = .ok (.aload_n 0, 1) := by decide +kernel
theorem dX7_nextPass_1 : decode cX7_nextPass 1 = .ok (.iload_n 1, 1) := by decide +kernel
theorem dX7_nextPass_2 : decode cX7_nextPass 2 = .ok (.invokevirtual 89, 3) := by decide +kernel
theorem dX7_nextPass_5 : decode cX7_nextPass 5 = .ok (.getfield 191, 3) := by decide +kernel
theorem dX7_nextPass_8 : decode cX7_nextPass 8 = .ok (.ireturn, 1) := by decide +kernel
theorem dX7_lastPass_0 : decode cX7_lastPass 0 = .ok (.aload_n 0, 1) := by decide +kernel
theorem dX7_lastPass_1 : decode cX7_lastPass 1 = .ok (.iload_n 1, 1) := by decide +kernel
theorem dX7_lastPass_2 : decode cX7_lastPass 2 = .ok (.invokevirtual 89, 3) := by decide +kernel
theorem dX7_lastPass_5 : decode cX7_lastPass 5 = .ok (.astore_n 2, 1) := by decide +kernel
theorem dX7_lastPass_6 : decode cX7_lastPass 6 = .ok (.aload_n 2, 1) := by decide +kernel
theorem dX7_lastPass_7 : decode cX7_lastPass 7 = .ok (.getfield 191, 3) := by decide +kernel
theorem dX7_lastPass_10 : decode cX7_lastPass 10 = .ok (.aload_n 2, 1) := by decide +kernel
theorem dX7_lastPass_11 : decode cX7_lastPass 11 = .ok (.getfield 135, 3) := by decide +kernel
theorem dX7_lastPass_14 : decode cX7_lastPass 14 = .ok (.iconst 1, 1) := by decide +kernel
theorem dX7_lastPass_15 : decode cX7_lastPass 15 = .ok (.isub, 1) := by decide +kernel
theorem dX7_lastPass_16 : decode cX7_lastPass 16 = .ok (.aload_n 2, 1) := by decide +kernel
theorem dX7_lastPass_17 : decode cX7_lastPass 17 = .ok (.getfield 110, 3) := by decide +kernel
theorem dX7_lastPass_20 : decode cX7_lastPass 20 = .ok (.imul, 1) := by decide +kernel
theorem dX7_lastPass_21 : decode cX7_lastPass 21 = .ok (.iadd, 1) := by decide +kernel
theorem dX7_lastPass_22 : decode cX7_lastPass 22 = .ok (.ireturn, 1) := by decide +kernel
theorem dX7_cometAtRank_0 : decode cX7_cometAtRank 0 = .ok (.iload_n 1, 1) := by decide +kernel
theorem dX7_cometAtRank_1 : decode cX7_cometAtRank 1 = .ok (.ifCond .lt 14, 3) := by decide +kernel
theorem dX7_cometAtRank_4 : decode cX7_cometAtRank 4 = .ok (.iload_n 1, 1) := by decide +kernel
theorem dX7_cometAtRank_5 : decode cX7_cometAtRank 5 = .ok (.aload_n 0, 1) := by decide +kernel
theorem dX7_cometAtRank_6 : decode cX7_cometAtRank 6 = .ok (.getfield 10, 3) := by decide +kernel
theorem dX7_cometAtRank_9 : decode cX7_cometAtRank 9 = .ok (.getfield 176, 3) := by decide +kernel
theorem dX7_cometAtRank_12 : decode cX7_cometAtRank 12 = .ok (.if_icmp .lt 13, 3) := by decide +kernel
theorem dX7_cometAtRank_15 : decode cX7_cometAtRank 15 = .ok (.new 150, 3) := by decide +kernel
theorem dX7_cometAtRank_18 : decode cX7_cometAtRank 18 = .ok (.dup, 1) := by decide +kernel
theorem dX7_cometAtRank_19 : decode cX7_cometAtRank 19 = .ok (.ldc 197, 2) := by decide +kernel
theorem dX7_cometAtRank_21 : decode cX7_cometAtRank 21 = .ok (.invokespecial 154, 3) := by decide +kernel
theorem dX7_cometAtRank_24 : decode cX7_cometAtRank 24 = .ok (.athrow, 1) := by decide +kernel
theorem dX7_cometAtRank_25 : decode cX7_cometAtRank 25 = .ok (.aload_n 0, 1) := by decide +kernel
theorem dX7_cometAtRank_26 : decode cX7_cometAtRank 26 = .ok (.getfield 10, 3) := by decide +kernel
theorem dX7_cometAtRank_29 : decode cX7_cometAtRank 29 = .ok (.iload_n 1, 1) := by decide +kernel
theorem dX7_cometAtRank_30 : decode cX7_cometAtRank 30 = .ok (.invokevirtual 199, 3) := by decide +kernel
theorem dX7_cometAtRank_33 : decode cX7_cometAtRank 33 = .ok (.ireturn, 1) := by decide +kernel
theorem dX7_passesIn_0 : decode cX7_passesIn 0 = .ok (.iload_n 1, 1) := by decide +kernel
theorem dX7_passesIn_1 : decode cX7_passesIn 1 = .ok (.invokestatic 202, 3) := by decide +kernel
theorem dX7_passesIn_4 : decode cX7_passesIn 4 = .ok (.ifCond .ne 13, 3) := by decide +kernel
theorem dX7_passesIn_7 : decode cX7_passesIn 7 = .ok (.new 65, 3) := by decide +kernel
theorem dX7_passesIn_10 : decode cX7_passesIn 10 = .ok (.dup, 1) := by decide +kernel
theorem dX7_passesIn_11 : decode cX7_passesIn 11 = .ok (.ldc 141, 2) := by decide +kernel
theorem dX7_passesIn_13 : decode cX7_passesIn 13 = .ok (.invokespecial 69, 3) := by decide +kernel
theorem dX7_passesIn_16 : decode cX7_passesIn 16 = .ok (.athrow, 1) := by decide +kernel
theorem dX7_passesIn_17 : decode cX7_passesIn 17 = .ok (.aload_n 0, 1) := by decide +kernel
theorem dX7_passesIn_18 : decode cX7_passesIn 18 = .ok (.getfield 10, 3) := by decide +kernel
theorem dX7_passesIn_21 : decode cX7_passesIn 21 = .ok (.iload_n 1, 1) := by decide +kernel
theorem dX7_passesIn_22 : decode cX7_passesIn 22 = .ok (.invokevirtual 205, 3) := by decide +kernel
theorem dX7_passesIn_25 : decode cX7_passesIn 25 = .ok (.ireturn, 1) := by decide +kernel
theorem dX7_nextMeeting_0 : decode cX7_nextMeeting 0 = .ok (.aload_n 0, 1) := by decide +kernel
theorem dX7_nextMeeting_1 : decode cX7_nextMeeting 1 = .ok (.iload_n 1, 1) := by decide +kernel
theorem dX7_nextMeeting_2 : decode cX7_nextMeeting 2 = .ok (.invokevirtual 89, 3) := by decide +kernel
theorem dX7_nextMeeting_5 : decode cX7_nextMeeting 5 = .ok (.astore_n 3, 1) := by decide +kernel
theorem dX7_nextMeeting_6 : decode cX7_nextMeeting 6 = .ok (.aload_n 0, 1) := by decide +kernel
theorem dX7_nextMeeting_7 : decode cX7_nextMeeting 7 = .ok (.iload_n 2, 1) := by decide +kernel
theorem dX7_nextMeeting_8 : decode cX7_nextMeeting 8 = .ok (.invokevirtual 89, 3) := by decide +kernel
theorem dX7_nextMeeting_11 : decode cX7_nextMeeting 11 = .ok (.astore 4, 2) := by decide +kernel
theorem dX7_nextMeeting_13 : decode cX7_nextMeeting 13 = .ok (.iload_n 1, 1) := by decide +kernel
theorem dX7_nextMeeting_14 : decode cX7_nextMeeting 14 = .ok (.iload_n 2, 1) := by decide +kernel
theorem dX7_nextMeeting_15 : decode cX7_nextMeeting 15 = .ok (.if_icmp .ne 13, 3) := by decide +kernel
theorem dX7_nextMeeting_18 : decode cX7_nextMeeting 18 = .ok (.new 65, 3) := by decide +kernel
theorem dX7_nextMeeting_21 : decode cX7_nextMeeting 21 = .ok (.dup, 1) := by decide +kernel
theorem dX7_nextMeeting_22 : decode cX7_nextMeeting 22 = .ok (.ldc 208, 2) := by decide +kernel
theorem dX7_nextMeeting_24 : decode cX7_nextMeeting 24 = .ok (.invokespecial 69, 3) := by decide +kernel
theorem dX7_nextMeeting_27 : decode cX7_nextMeeting 27 = .ok (.athrow, 1) := by decide +kernel
theorem dX7_nextMeeting_28 : decode cX7_nextMeeting 28 = .ok (.aload_n 3, 1) := by decide +kernel
theorem dX7_nextMeeting_29 : decode cX7_nextMeeting 29 = .ok (.aload 4, 2) := by decide +kernel
theorem dX7_nextMeeting_31 : decode cX7_nextMeeting 31 = .ok (.invokestatic 210, 3) := by decide +kernel
theorem dX7_nextMeeting_34 : decode cX7_nextMeeting 34 = .ok (.istore 5, 2) := by decide +kernel
theorem dX7_nextMeeting_36 : decode cX7_nextMeeting 36 = .ok (.iload 5, 2) := by decide +kernel
theorem dX7_nextMeeting_38 : decode cX7_nextMeeting 38 = .ok (.iconst (-1), 1) := by decide +kernel
theorem dX7_nextMeeting_39 : decode cX7_nextMeeting 39 = .ok (.if_icmp .ne 13, 3) := by decide +kernel
theorem dX7_nextMeeting_42 : decode cX7_nextMeeting 42 = .ok (.new 126, 3) := by decide +kernel
theorem dX7_nextMeeting_45 : decode cX7_nextMeeting 45 = .ok (.dup, 1) := by decide +kernel
theorem dX7_nextMeeting_46 : decode cX7_nextMeeting 46 = .ok (.ldc 216, 2) := by decide +kernel
theorem dX7_nextMeeting_48 : decode cX7_nextMeeting 48 = .ok (.invokespecial 130, 3) := by decide +kernel
theorem dX7_nextMeeting_51 : decode cX7_nextMeeting 51 = .ok (.athrow, 1) := by decide +kernel
theorem dX7_nextMeeting_52 : decode cX7_nextMeeting 52 = .ok (.iload 5, 2) := by decide +kernel
theorem dX7_nextMeeting_54 : decode cX7_nextMeeting 54 = .ok (.ireturn, 1) := by decide +kernel
theorem dX7_nextMeetingByRemainders_0 : decode cX7_nextMeetingByRemainders 0 = .ok (.aload_n 0, 1) := by decide +kernel
theorem dX7_nextMeetingByRemainders_1 : decode cX7_nextMeetingByRemainders 1 = .ok (.iload_n 1, 1) := by decide +kernel
theorem dX7_nextMeetingByRemainders_2 : decode cX7_nextMeetingByRemainders 2 = .ok (.invokevirtual 89, 3) := by decide +kernel
theorem dX7_nextMeetingByRemainders_5 : decode cX7_nextMeetingByRemainders 5 = .ok (.astore_n 3, 1) := by decide +kernel
theorem dX7_nextMeetingByRemainders_6 : decode cX7_nextMeetingByRemainders 6 = .ok (.aload_n 0, 1) := by decide +kernel
theorem dX7_nextMeetingByRemainders_7 : decode cX7_nextMeetingByRemainders 7 = .ok (.iload_n 2, 1) := by decide +kernel
theorem dX7_nextMeetingByRemainders_8 : decode cX7_nextMeetingByRemainders 8 = .ok (.invokevirtual 89, 3) := by decide +kernel
theorem dX7_nextMeetingByRemainders_11 : decode cX7_nextMeetingByRemainders 11 = .ok (.astore 4, 2) := by decide +kernel
theorem dX7_nextMeetingByRemainders_13 : decode cX7_nextMeetingByRemainders 13 = .ok (.iload_n 1, 1) := by decide +kernel
theorem dX7_nextMeetingByRemainders_14 : decode cX7_nextMeetingByRemainders 14 = .ok (.iload_n 2, 1) := by decide +kernel
theorem dX7_nextMeetingByRemainders_15 : decode cX7_nextMeetingByRemainders 15 = .ok (.if_icmp .ne 13, 3) := by decide +kernel
theorem dX7_nextMeetingByRemainders_18 : decode cX7_nextMeetingByRemainders 18 = .ok (.new 65, 3) := by decide +kernel
theorem dX7_nextMeetingByRemainders_21 : decode cX7_nextMeetingByRemainders 21 = .ok (.dup, 1) := by decide +kernel
theorem dX7_nextMeetingByRemainders_22 : decode cX7_nextMeetingByRemainders 22 = .ok (.ldc 208, 2) := by decide +kernel
theorem dX7_nextMeetingByRemainders_24 : decode cX7_nextMeetingByRemainders 24 = .ok (.invokespecial 69, 3) := by decide +kernel
theorem dX7_nextMeetingByRemainders_27 : decode cX7_nextMeetingByRemainders 27 = .ok (.athrow, 1) := by decide +kernel
theorem dX7_nextMeetingByRemainders_28 : decode cX7_nextMeetingByRemainders 28 = .ok (.aload_n 3, 1) := by decide +kernel
theorem dX7_nextMeetingByRemainders_29 : decode cX7_nextMeetingByRemainders 29 = .ok (.aload 4, 2) := by decide +kernel
theorem dX7_nextMeetingByRemainders_31 : decode cX7_nextMeetingByRemainders 31 = .ok (.invokestatic 218, 3) := by decide +kernel
theorem dX7_nextMeetingByRemainders_34 : decode cX7_nextMeetingByRemainders 34 = .ok (.istore 5, 2) := by decide +kernel
theorem dX7_nextMeetingByRemainders_36 : decode cX7_nextMeetingByRemainders 36 = .ok (.iload 5, 2) := by decide +kernel
theorem dX7_nextMeetingByRemainders_38 : decode cX7_nextMeetingByRemainders 38 = .ok (.iconst (-1), 1) := by decide +kernel
theorem dX7_nextMeetingByRemainders_39 : decode cX7_nextMeetingByRemainders 39 = .ok (.if_icmp .ne 13, 3) := by decide +kernel
theorem dX7_nextMeetingByRemainders_42 : decode cX7_nextMeetingByRemainders 42 = .ok (.new 126, 3) := by decide +kernel
theorem dX7_nextMeetingByRemainders_45 : decode cX7_nextMeetingByRemainders 45 = .ok (.dup, 1) := by decide +kernel
theorem dX7_nextMeetingByRemainders_46 : decode cX7_nextMeetingByRemainders 46 = .ok (.ldc 216, 2) := by decide +kernel
theorem dX7_nextMeetingByRemainders_48 : decode cX7_nextMeetingByRemainders 48 = .ok (.invokespecial 130, 3) := by decide +kernel
theorem dX7_nextMeetingByRemainders_51 : decode cX7_nextMeetingByRemainders 51 = .ok (.athrow, 1) := by decide +kernel
theorem dX7_nextMeetingByRemainders_52 : decode cX7_nextMeetingByRemainders 52 = .ok (.iload 5, 2) := by decide +kernel
theorem dX7_nextMeetingByRemainders_54 : decode cX7_nextMeetingByRemainders 54 = .ok (.ireturn, 1) := by decide +kernel
theorem dX7_alignment_0 : decode cX7_alignment 0 = .ok (.aload_n 0, 1) := by decide +kernel
theorem dX7_alignment_1 : decode cX7_alignment 1 = .ok (.getfield 10, 3) := by decide +kernel
theorem dX7_alignment_4 : decode cX7_alignment 4 = .ok (.getfield 176, 3) := by decide +kernel
theorem dX7_alignment_7 : decode cX7_alignment 7 = .ok (.ifCond .ne 13, 3) := by decide +kernel
theorem dX7_alignment_10 : decode cX7_alignment 10 = .ok (.new 221, 3) := by decide +kernel
theorem dX7_alignment_13 : decode cX7_alignment 13 = .ok (.dup, 1) := by decide +kernel
theorem dX7_alignment_14 : decode cX7_alignment 14 = .ok (.ldc 223, 2) := by decide +kernel
theorem dX7_alignment_16 : decode cX7_alignment 16 = .ok (.invokespecial 225, 3) := by decide +kernel
theorem dX7_alignment_19 : decode cX7_alignment 19 = .ok (.athrow, 1) := by decide +kernel
theorem dX7_alignment_20 : decode cX7_alignment 20 = .ok (.lconst 1, 1) := by decide +kernel
theorem dX7_alignment_21 : decode cX7_alignment 21 = .ok (.lstore_n 1, 1) := by decide +kernel
theorem dX7_alignment_22 : decode cX7_alignment 22 = .ok (.iconst 0, 1) := by decide +kernel
theorem dX7_alignment_23 : decode cX7_alignment 23 = .ok (.istore_n 3, 1) := by decide +kernel
theorem dX7_alignment_24 : decode cX7_alignment 24 = .ok (.iload_n 3, 1) := by decide +kernel
theorem dX7_alignment_25 : decode cX7_alignment 25 = .ok (.aload_n 0, 1) := by decide +kernel
theorem dX7_alignment_26 : decode cX7_alignment 26 = .ok (.getfield 10, 3) := by decide +kernel
theorem dX7_alignment_29 : decode cX7_alignment 29 = .ok (.getfield 176, 3) := by decide +kernel
theorem dX7_alignment_32 : decode cX7_alignment 32 = .ok (.if_icmp .ge 27, 3) := by decide +kernel
theorem dX7_alignment_35 : decode cX7_alignment 35 = .ok (.lload_n 1, 1) := by decide +kernel
theorem dX7_alignment_36 : decode cX7_alignment 36 = .ok (.aload_n 0, 1) := by decide +kernel
theorem dX7_alignment_37 : decode cX7_alignment 37 = .ok (.getfield 10, 3) := by decide +kernel
theorem dX7_alignment_40 : decode cX7_alignment 40 = .ok (.getfield 181, 3) := by decide +kernel
theorem dX7_alignment_43 : decode cX7_alignment 43 = .ok (.iload_n 3, 1) := by decide +kernel
theorem dX7_alignment_44 : decode cX7_alignment 44 = .ok (.aaload, 1) := by decide +kernel
theorem dX7_alignment_45 : decode cX7_alignment 45 = .ok (.getfield 110, 3) := by decide +kernel
theorem dX7_alignment_48 : decode cX7_alignment 48 = .ok (.i2l, 1) := by decide +kernel
theorem dX7_alignment_49 : decode cX7_alignment 49 = .ok (.invokestatic 226, 3) := by decide +kernel
theorem dX7_alignment_52 : decode cX7_alignment 52 = .ok (.lstore_n 1, 1) := by decide +kernel
theorem dX7_alignment_53 : decode cX7_alignment 53 = .ok (.iinc 3 1, 3) := by decide +kernel
theorem dX7_alignment_56 : decode cX7_alignment 56 = .ok (.goto (-32), 3) := by decide +kernel
theorem dX7_alignment_59 : decode cX7_alignment 59 = .ok (.lload_n 1, 1) := by decide +kernel
theorem dX7_alignment_60 : decode cX7_alignment 60 = .ok (.lreturn, 1) := by decide +kernel
theorem dX7_bestWorth_0 : decode cX7_bestWorth 0 = .ok (.iload_n 1, 1) := by decide +kernel
theorem dX7_bestWorth_1 : decode cX7_bestWorth 1 = .ok (.invokestatic 202, 3) := by decide +kernel
theorem dX7_bestWorth_4 : decode cX7_bestWorth 4 = .ok (.ifCond .ne 13, 3) := by decide +kernel
theorem dX7_bestWorth_7 : decode cX7_bestWorth 7 = .ok (.new 65, 3) := by decide +kernel
theorem dX7_bestWorth_10 : decode cX7_bestWorth 10 = .ok (.dup, 1) := by decide +kernel
theorem dX7_bestWorth_11 : decode cX7_bestWorth 11 = .ok (.ldc 141, 2) := by decide +kernel
theorem dX7_bestWorth_13 : decode cX7_bestWorth 13 = .ok (.invokespecial 69, 3) := by decide +kernel
theorem dX7_bestWorth_16 : decode cX7_bestWorth 16 = .ok (.athrow, 1) := by decide +kernel
theorem dX7_bestWorth_17 : decode cX7_bestWorth 17 = .ok (.aload_n 0, 1) := by decide +kernel
theorem dX7_bestWorth_18 : decode cX7_bestWorth 18 = .ok (.getfield 32, 3) := by decide +kernel
theorem dX7_bestWorth_21 : decode cX7_bestWorth 21 = .ok (.aload_n 0, 1) := by decide +kernel
theorem dX7_bestWorth_22 : decode cX7_bestWorth 22 = .ok (.getfield 10, 3) := by decide +kernel
theorem dX7_bestWorth_25 : decode cX7_bestWorth 25 = .ok (.iload_n 1, 1) := by decide +kernel
theorem dX7_bestWorth_26 : decode cX7_bestWorth 26 = .ok (.invokevirtual 230, 3) := by decide +kernel
theorem dX7_bestWorth_29 : decode cX7_bestWorth 29 = .ok (.aload_n 0, 1) := by decide +kernel
theorem dX7_bestWorth_30 : decode cX7_bestWorth 30 = .ok (.getfield 32, 3) := by decide +kernel
theorem dX7_bestWorth_33 : decode cX7_bestWorth 33 = .ok (.invokevirtual 234, 3) := by decide +kernel
theorem dX7_bestWorth_36 : decode cX7_bestWorth 36 = .ok (.ireturn, 1) := by decide +kernel
theorem dX7_bestWorthByDays_0 : decode cX7_bestWorthByDays 0 = .ok (.iload_n 1, 1) := by decide +kernel
theorem dX7_bestWorthByDays_1 : decode cX7_bestWorthByDays 1 = .ok (.invokestatic 202, 3) := by decide +kernel
theorem dX7_bestWorthByDays_4 : decode cX7_bestWorthByDays 4 = .ok (.ifCond .ne 13, 3) := by decide +kernel
theorem dX7_bestWorthByDays_7 : decode cX7_bestWorthByDays 7 = .ok (.new 65, 3) := by decide +kernel
theorem dX7_bestWorthByDays_10 : decode cX7_bestWorthByDays 10 = .ok (.dup, 1) := by decide +kernel
theorem dX7_bestWorthByDays_11 : decode cX7_bestWorthByDays 11 = .ok (.ldc 141, 2) := by decide +kernel
theorem dX7_bestWorthByDays_13 : decode cX7_bestWorthByDays 13 = .ok (.invokespecial 69, 3) := by decide +kernel
theorem dX7_bestWorthByDays_16 : decode cX7_bestWorthByDays 16 = .ok (.athrow, 1) := by decide +kernel
theorem dX7_bestWorthByDays_17 : decode cX7_bestWorthByDays 17 = .ok (.aload_n 0, 1) := by decide +kernel
theorem dX7_bestWorthByDays_18 : decode cX7_bestWorthByDays 18 = .ok (.getfield 32, 3) := by decide +kernel
theorem dX7_bestWorthByDays_21 : decode cX7_bestWorthByDays 21 = .ok (.aload_n 0, 1) := by decide +kernel
theorem dX7_bestWorthByDays_22 : decode cX7_bestWorthByDays 22 = .ok (.getfield 10, 3) := by decide +kernel
theorem dX7_bestWorthByDays_25 : decode cX7_bestWorthByDays 25 = .ok (.iload_n 1, 1) := by decide +kernel
theorem dX7_bestWorthByDays_26 : decode cX7_bestWorthByDays 26 = .ok (.invokevirtual 230, 3) := by decide +kernel
theorem dX7_bestWorthByDays_29 : decode cX7_bestWorthByDays 29 = .ok (.aload_n 0, 1) := by decide +kernel
theorem dX7_bestWorthByDays_30 : decode cX7_bestWorthByDays 30 = .ok (.getfield 32, 3) := by decide +kernel
theorem dX7_bestWorthByDays_33 : decode cX7_bestWorthByDays 33 = .ok (.iload_n 1, 1) := by decide +kernel
theorem dX7_bestWorthByDays_34 : decode cX7_bestWorthByDays 34 = .ok (.invokevirtual 238, 3) := by decide +kernel
theorem dX7_bestWorthByDays_37 : decode cX7_bestWorthByDays 37 = .ok (.aload_n 0, 1) := by decide +kernel
theorem dX7_bestWorthByDays_38 : decode cX7_bestWorthByDays 38 = .ok (.getfield 32, 3) := by decide +kernel
theorem dX7_bestWorthByDays_41 : decode cX7_bestWorthByDays 41 = .ok (.getfield 242, 3) := by decide +kernel
theorem dX7_bestWorthByDays_44 : decode cX7_bestWorthByDays 44 = .ok (.iconst 1, 1) := by decide +kernel
theorem dX7_bestWorthByDays_45 : decode cX7_bestWorthByDays 45 = .ok (.iaload, 1) := by decide +kernel
theorem dX7_bestWorthByDays_46 : decode cX7_bestWorthByDays 46 = .ok (.ireturn, 1) := by decide +kernel
theorem dX7_fewestPasses_0 : decode cX7_fewestPasses 0 = .ok (.iload_n 1, 1) := by decide +kernel
theorem dX7_fewestPasses_1 : decode cX7_fewestPasses 1 = .ok (.invokestatic 202, 3) := by decide +kernel
theorem dX7_fewestPasses_4 : decode cX7_fewestPasses 4 = .ok (.ifCond .ne 13, 3) := by decide +kernel
theorem dX7_fewestPasses_7 : decode cX7_fewestPasses 7 = .ok (.new 65, 3) := by decide +kernel
theorem dX7_fewestPasses_10 : decode cX7_fewestPasses 10 = .ok (.dup, 1) := by decide +kernel
theorem dX7_fewestPasses_11 : decode cX7_fewestPasses 11 = .ok (.ldc 141, 2) := by decide +kernel
theorem dX7_fewestPasses_13 : decode cX7_fewestPasses 13 = .ok (.invokespecial 69, 3) := by decide +kernel
theorem dX7_fewestPasses_16 : decode cX7_fewestPasses 16 = .ok (.athrow, 1) := by decide +kernel
theorem dX7_fewestPasses_17 : decode cX7_fewestPasses 17 = .ok (.aload_n 0, 1) := by decide +kernel
theorem dX7_fewestPasses_18 : decode cX7_fewestPasses 18 = .ok (.getfield 32, 3) := by decide +kernel
theorem dX7_fewestPasses_21 : decode cX7_fewestPasses 21 = .ok (.aload_n 0, 1) := by decide +kernel
theorem dX7_fewestPasses_22 : decode cX7_fewestPasses 22 = .ok (.getfield 10, 3) := by decide +kernel
theorem dX7_fewestPasses_25 : decode cX7_fewestPasses 25 = .ok (.iload_n 1, 1) := by decide +kernel
theorem dX7_fewestPasses_26 : decode cX7_fewestPasses 26 = .ok (.invokevirtual 230, 3) := by decide +kernel
theorem dX7_fewestPasses_29 : decode cX7_fewestPasses 29 = .ok (.aload_n 0, 1) := by decide +kernel
theorem dX7_fewestPasses_30 : decode cX7_fewestPasses 30 = .ok (.getfield 32, 3) := by decide +kernel
theorem dX7_fewestPasses_33 : decode cX7_fewestPasses 33 = .ok (.iload_n 1, 1) := by decide +kernel
theorem dX7_fewestPasses_34 : decode cX7_fewestPasses 34 = .ok (.invokevirtual 238, 3) := by decide +kernel
theorem dX7_fewestPasses_37 : decode cX7_fewestPasses 37 = .ok (.aload_n 0, 1) := by decide +kernel
theorem dX7_fewestPasses_38 : decode cX7_fewestPasses 38 = .ok (.getfield 32, 3) := by decide +kernel
theorem dX7_fewestPasses_41 : decode cX7_fewestPasses 41 = .ok (.getfield 246, 3) := by decide +kernel
theorem dX7_fewestPasses_44 : decode cX7_fewestPasses 44 = .ok (.iconst 1, 1) := by decide +kernel
theorem dX7_fewestPasses_45 : decode cX7_fewestPasses 45 = .ok (.iaload, 1) := by decide +kernel
theorem dX7_fewestPasses_46 : decode cX7_fewestPasses 46 = .ok (.ireturn, 1) := by decide +kernel
theorem dX7_dust_0 : decode cX7_dust 0 = .ok (.iload_n 1, 1) := by decide +kernel
theorem dX7_dust_1 : decode cX7_dust 1 = .ok (.invokestatic 147, 3) := by decide +kernel
theorem dX7_dust_4 : decode cX7_dust 4 = .ok (.ifCond .ne 13, 3) := by decide +kernel
theorem dX7_dust_7 : decode cX7_dust 7 = .ok (.new 150, 3) := by decide +kernel
theorem dX7_dust_10 : decode cX7_dust 10 = .ok (.dup, 1) := by decide +kernel
theorem dX7_dust_11 : decode cX7_dust 11 = .ok (.ldc 152, 2) := by decide +kernel
theorem dX7_dust_13 : decode cX7_dust 13 = .ok (.invokespecial 154, 3) := by decide +kernel
theorem dX7_dust_16 : decode cX7_dust 16 = .ok (.athrow, 1) := by decide +kernel
theorem dX7_dust_17 : decode cX7_dust 17 = .ok (.aload_n 0, 1) := by decide +kernel
theorem dX7_dust_18 : decode cX7_dust 18 = .ok (.getfield 10, 3) := by decide +kernel
theorem dX7_dust_21 : decode cX7_dust 21 = .ok (.getfield 249, 3) := by decide +kernel
theorem dX7_dust_24 : decode cX7_dust 24 = .ok (.getfield 253, 3) := by decide +kernel
theorem dX7_dust_27 : decode cX7_dust 27 = .ok (.iload_n 1, 1) := by decide +kernel
theorem dX7_dust_28 : decode cX7_dust 28 = .ok (.iaload, 1) := by decide +kernel
theorem dX7_dust_29 : decode cX7_dust 29 = .ok (.ireturn, 1) := by decide +kernel
theorem dX7_gain_0 : decode cX7_gain 0 = .ok (.iload_n 1, 1) := by decide +kernel
theorem dX7_gain_1 : decode cX7_gain 1 = .ok (.invokestatic 147, 3) := by decide +kernel
theorem dX7_gain_4 : decode cX7_gain 4 = .ok (.ifCond .ne 13, 3) := by decide +kernel
theorem dX7_gain_7 : decode cX7_gain 7 = .ok (.new 150, 3) := by decide +kernel
theorem dX7_gain_10 : decode cX7_gain 10 = .ok (.dup, 1) := by decide +kernel
theorem dX7_gain_11 : decode cX7_gain 11 = .ok (.ldc 152, 2) := by decide +kernel
theorem dX7_gain_13 : decode cX7_gain 13 = .ok (.invokespecial 154, 3) := by decide +kernel
theorem dX7_gain_16 : decode cX7_gain 16 = .ok (.athrow, 1) := by decide +kernel
theorem dX7_gain_17 : decode cX7_gain 17 = .ok (.iload_n 2, 1) := by decide +kernel
theorem dX7_gain_18 : decode cX7_gain 18 = .ok (.invokestatic 155, 3) := by decide +kernel
theorem dX7_gain_21 : decode cX7_gain 21 = .ok (.ifCond .ne 13, 3) := by decide +kernel
theorem dX7_gain_24 : decode cX7_gain 24 = .ok (.new 65, 3) := by decide +kernel
theorem dX7_gain_27 : decode cX7_gain 27 = .ok (.dup, 1) := by decide +kernel
theorem dX7_gain_28 : decode cX7_gain 28 = .ok (.ldc 158, 2) := by decide +kernel
theorem dX7_gain_30 : decode cX7_gain 30 = .ok (.invokespecial 69, 3) := by decide +kernel
theorem dX7_gain_33 : decode cX7_gain 33 = .ok (.athrow, 1) := by decide +kernel
theorem dX7_gain_34 : decode cX7_gain 34 = .ok (.aload_n 0, 1) := by decide +kernel
theorem dX7_gain_35 : decode cX7_gain 35 = .ok (.getfield 10, 3) := by decide +kernel
theorem dX7_gain_38 : decode cX7_gain 38 = .ok (.getfield 249, 3) := by decide +kernel
theorem dX7_gain_41 : decode cX7_gain 41 = .ok (.iload_n 1, 1) := by decide +kernel
theorem dX7_gain_42 : decode cX7_gain 42 = .ok (.iload_n 2, 1) := by decide +kernel
theorem dX7_gain_43 : decode cX7_gain 43 = .ok (.aload_n 0, 1) := by decide +kernel
theorem dX7_gain_44 : decode cX7_gain 44 = .ok (.getfield 10, 3) := by decide +kernel
theorem dX7_gain_47 : decode cX7_gain 47 = .ok (.getfield 173, 3) := by decide +kernel
theorem dX7_gain_50 : decode cX7_gain 50 = .ok (.invokevirtual 258, 3) := by decide +kernel
theorem dX7_gain_53 : decode cX7_gain 53 = .ok (.ireturn, 1) := by decide +kernel
theorem dX7_bestGain_0 : decode cX7_bestGain 0 = .ok (.aload_n 0, 1) := by decide +kernel
theorem dX7_bestGain_1 : decode cX7_bestGain 1 = .ok (.getfield 10, 3) := by decide +kernel
theorem dX7_bestGain_4 : decode cX7_bestGain 4 = .ok (.getfield 249, 3) := by decide +kernel
theorem dX7_bestGain_7 : decode cX7_bestGain 7 = .ok (.aload_n 0, 1) := by decide +kernel
theorem dX7_bestGain_8 : decode cX7_bestGain 8 = .ok (.getfield 10, 3) := by decide +kernel
theorem dX7_bestGain_11 : decode cX7_bestGain 11 = .ok (.getfield 173, 3) := by decide +kernel
theorem dX7_bestGain_14 : decode cX7_bestGain 14 = .ok (.invokevirtual 261, 3) := by decide +kernel
theorem dX7_bestGain_17 : decode cX7_bestGain 17 = .ok (.ireturn, 1) := by decide +kernel
theorem dX7_bestGainByArcs_0 : decode cX7_bestGainByArcs 0 = .ok (.aload_n 0, 1) := by decide +kernel
theorem dX7_bestGainByArcs_1 : decode cX7_bestGainByArcs 1 = .ok (.getfield 10, 3) := by decide +kernel
theorem dX7_bestGainByArcs_4 : decode cX7_bestGainByArcs 4 = .ok (.getfield 249, 3) := by decide +kernel
theorem dX7_bestGainByArcs_7 : decode cX7_bestGainByArcs 7 = .ok (.aload_n 0, 1) := by decide +kernel
theorem dX7_bestGainByArcs_8 : decode cX7_bestGainByArcs 8 = .ok (.getfield 10, 3) := by decide +kernel
theorem dX7_bestGainByArcs_11 : decode cX7_bestGainByArcs 11 = .ok (.getfield 173, 3) := by decide +kernel
theorem dX7_bestGainByArcs_14 : decode cX7_bestGainByArcs 14 = .ok (.invokevirtual 264, 3) := by decide +kernel
theorem dX7_bestGainByArcs_17 : decode cX7_bestGainByArcs 17 = .ok (.aload_n 0, 1) := by decide +kernel
theorem dX7_bestGainByArcs_18 : decode cX7_bestGainByArcs 18 = .ok (.getfield 10, 3) := by decide +kernel
theorem dX7_bestGainByArcs_21 : decode cX7_bestGainByArcs 21 = .ok (.getfield 249, 3) := by decide +kernel
theorem dX7_bestGainByArcs_24 : decode cX7_bestGainByArcs 24 = .ok (.getfield 267, 3) := by decide +kernel
theorem dX7_bestGainByArcs_27 : decode cX7_bestGainByArcs 27 = .ok (.ireturn, 1) := by decide +kernel
theorem dX7_bestStart_0 : decode cX7_bestStart 0 = .ok (.aload_n 0, 1) := by decide +kernel
theorem dX7_bestStart_1 : decode cX7_bestStart 1 = .ok (.getfield 10, 3) := by decide +kernel
theorem dX7_bestStart_4 : decode cX7_bestStart 4 = .ok (.getfield 249, 3) := by decide +kernel
theorem dX7_bestStart_7 : decode cX7_bestStart 7 = .ok (.aload_n 0, 1) := by decide +kernel
theorem dX7_bestStart_8 : decode cX7_bestStart 8 = .ok (.getfield 10, 3) := by decide +kernel
theorem dX7_bestStart_11 : decode cX7_bestStart 11 = .ok (.getfield 173, 3) := by decide +kernel
theorem dX7_bestStart_14 : decode cX7_bestStart 14 = .ok (.invokevirtual 264, 3) := by decide +kernel
theorem dX7_bestStart_17 : decode cX7_bestStart 17 = .ok (.aload_n 0, 1) := by decide +kernel
theorem dX7_bestStart_18 : decode cX7_bestStart 18 = .ok (.getfield 10, 3) := by decide +kernel
theorem dX7_bestStart_21 : decode cX7_bestStart 21 = .ok (.getfield 249, 3) := by decide +kernel
theorem dX7_bestStart_24 : decode cX7_bestStart 24 = .ok (.getfield 270, 3) := by decide +kernel
theorem dX7_bestStart_27 : decode cX7_bestStart 27 = .ok (.ireturn, 1) := by decide +kernel
theorem dX7_bestPlaces_0 : decode cX7_bestPlaces 0 = .ok (.aload_n 0, 1) := by decide +kernel
theorem dX7_bestPlaces_1 : decode cX7_bestPlaces 1 = .ok (.getfield 10, 3) := by decide +kernel
theorem dX7_bestPlaces_4 : decode cX7_bestPlaces 4 = .ok (.getfield 249, 3) := by decide +kernel
theorem dX7_bestPlaces_7 : decode cX7_bestPlaces 7 = .ok (.aload_n 0, 1) := by decide +kernel
theorem dX7_bestPlaces_8 : decode cX7_bestPlaces 8 = .ok (.getfield 10, 3) := by decide +kernel
theorem dX7_bestPlaces_11 : decode cX7_bestPlaces 11 = .ok (.getfield 173, 3) := by decide +kernel
theorem dX7_bestPlaces_14 : decode cX7_bestPlaces 14 = .ok (.invokevirtual 264, 3) := by decide +kernel
theorem dX7_bestPlaces_17 : decode cX7_bestPlaces 17 = .ok (.aload_n 0, 1) := by decide +kernel
theorem dX7_bestPlaces_18 : decode cX7_bestPlaces 18 = .ok (.getfield 10, 3) := by decide +kernel
theorem dX7_bestPlaces_21 : decode cX7_bestPlaces 21 = .ok (.getfield 249, 3) := by decide +kernel
theorem dX7_bestPlaces_24 : decode cX7_bestPlaces 24 = .ok (.getfield 273, 3) := by decide +kernel
theorem dX7_bestPlaces_27 : decode cX7_bestPlaces 27 = .ok (.ireturn, 1) := by decide +kernel
theorem dX7_day_0 : decode cX7_day 0 = .ok (.aload_n 0, 1) := by decide +kernel
theorem dX7_day_1 : decode cX7_day 1 = .ok (.getfield 10, 3) := by decide +kernel
theorem dX7_day_4 : decode cX7_day 4 = .ok (.getfield 276, 3) := by decide +kernel
theorem dX7_day_7 : decode cX7_day 7 = .ok (.ireturn, 1) := by decide +kernel
theorem dX7_coins_0 : decode cX7_coins 0 = .ok (.aload_n 0, 1) := by decide +kernel
theorem dX7_coins_1 : decode cX7_coins 1 = .ok (.getfield 10, 3) := by decide +kernel
theorem dX7_coins_4 : decode cX7_coins 4 = .ok (.getfield 102, 3) := by decide +kernel
theorem dX7_coins_7 : decode cX7_coins 7 = .ok (.ireturn, 1) := by decide +kernel
theorem dX7_rate_0 : decode cX7_rate 0 = .ok (.aload_n 0, 1) := by decide +kernel
theorem dX7_rate_1 : decode cX7_rate 1 = .ok (.getfield 10, 3) := by decide +kernel
theorem dX7_rate_4 : decode cX7_rate 4 = .ok (.getfield 173, 3) := by decide +kernel
theorem dX7_rate_7 : decode cX7_rate 7 = .ok (.ireturn, 1) := by decide +kernel
theorem dX7_dustTotal_0 : decode cX7_dustTotal 0 = .ok (.aload_n 0, 1) := by decide +kernel
theorem dX7_dustTotal_1 : decode cX7_dustTotal 1 = .ok (.getfield 10, 3) := by decide +kernel
theorem dX7_dustTotal_4 : decode cX7_dustTotal 4 = .ok (.getfield 249, 3) := by decide +kernel
theorem dX7_dustTotal_7 : decode cX7_dustTotal 7 = .ok (.iconst 0, 1) := by decide +kernel
theorem dX7_dustTotal_8 : decode cX7_dustTotal 8 = .ok (.bipush 12, 2) := by decide +kernel
theorem dX7_dustTotal_10 : decode cX7_dustTotal 10 = .ok (.invokevirtual 279, 3) := by decide +kernel
theorem dX7_dustTotal_13 : decode cX7_dustTotal 13 = .ok (.ireturn, 1) := by decide +kernel
theorem dX7_dustByAccounts_0 : decode cX7_dustByAccounts 0 = .ok (.aload_n 0, 1) := by decide +kernel
theorem dX7_dustByAccounts_1 : decode cX7_dustByAccounts 1 = .ok (.getfield 10, 3) := by decide +kernel
theorem dX7_dustByAccounts_4 : decode cX7_dustByAccounts 4 = .ok (.getfield 249, 3) := by decide +kernel
theorem dX7_dustByAccounts_7 : decode cX7_dustByAccounts 7 = .ok (.getfield 282, 3) := by decide +kernel
theorem dX7_dustByAccounts_10 : decode cX7_dustByAccounts 10 = .ok (.aload_n 0, 1) := by decide +kernel
theorem dX7_dustByAccounts_11 : decode cX7_dustByAccounts 11 = .ok (.getfield 10, 3) := by decide +kernel
theorem dX7_dustByAccounts_14 : decode cX7_dustByAccounts 14 = .ok (.getfield 249, 3) := by decide +kernel
theorem dX7_dustByAccounts_17 : decode cX7_dustByAccounts 17 = .ok (.getfield 285, 3) := by decide +kernel
theorem dX7_dustByAccounts_20 : decode cX7_dustByAccounts 20 = .ok (.isub, 1) := by decide +kernel
theorem dX7_dustByAccounts_21 : decode cX7_dustByAccounts 21 = .ok (.ireturn, 1) := by decide +kernel
theorem dX7_meanBrightness_0 : decode cX7_meanBrightness 0 = .ok (.aload_n 0, 1) := by decide +kernel
theorem dX7_meanBrightness_1 : decode cX7_meanBrightness 1 = .ok (.getfield 10, 3) := by decide +kernel
theorem dX7_meanBrightness_4 : decode cX7_meanBrightness 4 = .ok (.getfield 176, 3) := by decide +kernel
theorem dX7_meanBrightness_7 : decode cX7_meanBrightness 7 = .ok (.ifCond .ne 13, 3) := by decide +kernel
theorem dX7_meanBrightness_10 : decode cX7_meanBrightness 10 = .ok (.new 221, 3) := by decide +kernel
theorem dX7_meanBrightness_13 : decode cX7_meanBrightness 13 = .ok (.dup, 1) := by decide +kernel
theorem dX7_meanBrightness_14 : decode cX7_meanBrightness 14 = .ok (.ldc 223, 2) := by decide +kernel
theorem dX7_meanBrightness_16 : decode cX7_meanBrightness 16 = .ok (.invokespecial 225, 3) := by decide +kernel
theorem dX7_meanBrightness_19 : decode cX7_meanBrightness 19 = .ok (.athrow, 1) := by decide +kernel
theorem dX7_meanBrightness_20 : decode cX7_meanBrightness 20 = .ok (.iconst 0, 1) := by decide +kernel
theorem dX7_meanBrightness_21 : decode cX7_meanBrightness 21 = .ok (.istore_n 1, 1) := by decide +kernel
theorem dX7_meanBrightness_22 : decode cX7_meanBrightness 22 = .ok (.iconst 0, 1) := by decide +kernel
theorem dX7_meanBrightness_23 : decode cX7_meanBrightness 23 = .ok (.istore_n 2, 1) := by decide +kernel
theorem dX7_meanBrightness_24 : decode cX7_meanBrightness 24 = .ok (.iload_n 2, 1) := by decide +kernel
theorem dX7_meanBrightness_25 : decode cX7_meanBrightness 25 = .ok (.aload_n 0, 1) := by decide +kernel
theorem dX7_meanBrightness_26 : decode cX7_meanBrightness 26 = .ok (.getfield 10, 3) := by decide +kernel
theorem dX7_meanBrightness_29 : decode cX7_meanBrightness 29 = .ok (.getfield 176, 3) := by decide +kernel
theorem dX7_meanBrightness_32 : decode cX7_meanBrightness 32 = .ok (.if_icmp .ge 24, 3) := by decide +kernel
theorem dX7_meanBrightness_35 : decode cX7_meanBrightness 35 = .ok (.iload_n 1, 1) := by decide +kernel
theorem dX7_meanBrightness_36 : decode cX7_meanBrightness 36 = .ok (.aload_n 0, 1) := by decide +kernel
theorem dX7_meanBrightness_37 : decode cX7_meanBrightness 37 = .ok (.getfield 10, 3) := by decide +kernel
theorem dX7_meanBrightness_40 : decode cX7_meanBrightness 40 = .ok (.getfield 181, 3) := by decide +kernel
theorem dX7_meanBrightness_43 : decode cX7_meanBrightness 43 = .ok (.iload_n 2, 1) := by decide +kernel
theorem dX7_meanBrightness_44 : decode cX7_meanBrightness 44 = .ok (.aaload, 1) := by decide +kernel
theorem dX7_meanBrightness_45 : decode cX7_meanBrightness 45 = .ok (.getfield 135, 3) := by decide +kernel
theorem dX7_meanBrightness_48 : decode cX7_meanBrightness 48 = .ok (.iadd, 1) := by decide +kernel
theorem dX7_meanBrightness_49 : decode cX7_meanBrightness 49 = .ok (.istore_n 1, 1) := by decide +kernel
theorem dX7_meanBrightness_50 : decode cX7_meanBrightness 50 = .ok (.iinc 2 1, 3) := by decide +kernel
theorem dX7_meanBrightness_53 : decode cX7_meanBrightness 53 = .ok (.goto (-29), 3) := by decide +kernel
theorem dX7_meanBrightness_56 : decode cX7_meanBrightness 56 = .ok (.iload_n 1, 1) := by decide +kernel
theorem dX7_meanBrightness_57 : decode cX7_meanBrightness 57 = .ok (.i2d, 1) := by decide +kernel
theorem dX7_meanBrightness_58 : decode cX7_meanBrightness 58 = .ok (.aload_n 0, 1) := by decide +kernel
theorem dX7_meanBrightness_59 : decode cX7_meanBrightness 59 = .ok (.getfield 10, 3) := by decide +kernel
theorem dX7_meanBrightness_62 : decode cX7_meanBrightness 62 = .ok (.getfield 176, 3) := by decide +kernel
theorem dX7_meanBrightness_65 : decode cX7_meanBrightness 65 = .ok (.i2d, 1) := by decide +kernel
theorem dX7_meanBrightness_66 : decode cX7_meanBrightness 66 = .ok (.ddiv, 1) := by decide +kernel
theorem dX7_meanBrightness_67 : decode cX7_meanBrightness 67 = .ok (.dreturn, 1) := by decide +kernel
theorem dX7_dustyShare_0 : decode cX7_dustyShare 0 = .ok (.aload_n 0, 1) := by decide +kernel
theorem dX7_dustyShare_1 : decode cX7_dustyShare 1 = .ok (.getfield 10, 3) := by decide +kernel
theorem dX7_dustyShare_4 : decode cX7_dustyShare 4 = .ok (.getfield 249, 3) := by decide +kernel
theorem dX7_dustyShare_7 : decode cX7_dustyShare 7 = .ok (.invokevirtual 294, 3) := by decide +kernel
theorem dX7_dustyShare_10 : decode cX7_dustyShare 10 = .ok (.i2f, 1) := by decide +kernel
theorem dX7_dustyShare_11 : decode cX7_dustyShare 11 = .ok (.ldc_w 297, 3) := by decide +kernel
theorem dX7_dustyShare_14 : decode cX7_dustyShare 14 = .ok (.fdiv, 1) := by decide +kernel
theorem dX7_dustyShare_15 : decode cX7_dustyShare 15 = .ok (.freturn, 1) := by decide +kernel
theorem dX7_isConsistent_0 : decode cX7_isConsistent 0 = .ok (.aload_n 0, 1) := by decide +kernel
theorem dX7_isConsistent_1 : decode cX7_isConsistent 1 = .ok (.invokevirtual 298, 3) := by decide +kernel
theorem dX7_isConsistent_4 : decode cX7_isConsistent 4 = .ok (.aload_n 0, 1) := by decide +kernel
theorem dX7_isConsistent_5 : decode cX7_isConsistent 5 = .ok (.invokevirtual 301, 3) := by decide +kernel
theorem dX7_isConsistent_8 : decode cX7_isConsistent 8 = .ok (.if_icmp .ne 43, 3) := by decide +kernel
theorem dX7_isConsistent_11 : decode cX7_isConsistent 11 = .ok (.aload_n 0, 1) := by decide +kernel
theorem dX7_isConsistent_12 : decode cX7_isConsistent 12 = .ok (.invokevirtual 304, 3) := by decide +kernel
theorem dX7_isConsistent_15 : decode cX7_isConsistent 15 = .ok (.aload_n 0, 1) := by decide +kernel
theorem dX7_isConsistent_16 : decode cX7_isConsistent 16 = .ok (.invokevirtual 307, 3) := by decide +kernel
theorem dX7_isConsistent_19 : decode cX7_isConsistent 19 = .ok (.if_icmp .ne 32, 3) := by decide +kernel
theorem dX7_isConsistent_22 : decode cX7_isConsistent 22 = .ok (.aload_n 0, 1) := by decide +kernel
theorem dX7_isConsistent_23 : decode cX7_isConsistent 23 = .ok (.bipush 20, 2) := by decide +kernel
theorem dX7_isConsistent_25 : decode cX7_isConsistent 25 = .ok (.invokevirtual 310, 3) := by decide +kernel
theorem dX7_isConsistent_28 : decode cX7_isConsistent 28 = .ok (.aload_n 0, 1) := by decide +kernel
theorem dX7_isConsistent_29 : decode cX7_isConsistent 29 = .ok (.bipush 20, 2) := by decide +kernel
theorem dX7_isConsistent_31 : decode cX7_isConsistent 31 = .ok (.invokevirtual 313, 3) := by decide +kernel
theorem dX7_isConsistent_34 : decode cX7_isConsistent 34 = .ok (.if_icmp .ne 17, 3) := by decide +kernel
theorem dX7_isConsistent_37 : decode cX7_isConsistent 37 = .ok (.aload_n 0, 1) := by decide +kernel
theorem dX7_isConsistent_38 : decode cX7_isConsistent 38 = .ok (.getfield 10, 3) := by decide +kernel
theorem dX7_isConsistent_41 : decode cX7_isConsistent 41 = .ok (.invokevirtual 316, 3) := by decide +kernel
theorem dX7_isConsistent_44 : decode cX7_isConsistent 44 = .ok (.ifCond .eq 7, 3) := by decide +kernel
theorem dX7_isConsistent_47 : decode cX7_isConsistent 47 = .ok (.iconst 1, 1) := by decide +kernel
theorem dX7_isConsistent_48 : decode cX7_isConsistent 48 = .ok (.goto 4, 3) := by decide +kernel
theorem dX7_isConsistent_51 : decode cX7_isConsistent 51 = .ok (.iconst 0, 1) := by decide +kernel
theorem dX7_isConsistent_52 : decode cX7_isConsistent 52 = .ok (.ireturn, 1) := by decide +kernel
theorem dX7_writeComet_0 : decode cX7_writeComet 0 = .ok (.aload_n 0, 1) := by decide +kernel
theorem dX7_writeComet_1 : decode cX7_writeComet 1 = .ok (.iload_n 1, 1) := by decide +kernel
theorem dX7_writeComet_2 : decode cX7_writeComet 2 = .ok (.invokevirtual 89, 3) := by decide +kernel
theorem dX7_writeComet_5 : decode cX7_writeComet 5 = .ok (.astore_n 2, 1) := by decide +kernel
theorem dX7_writeComet_6 : decode cX7_writeComet 6 = .ok (.aload_n 0, 1) := by decide +kernel
theorem dX7_writeComet_7 : decode cX7_writeComet 7 = .ok (.getfield 46, 3) := by decide +kernel
theorem dX7_writeComet_10 : decode cX7_writeComet 10 = .ok (.iconst 0, 1) := by decide +kernel
theorem dX7_writeComet_11 : decode cX7_writeComet 11 = .ok (.invokevirtual 362, 3) := by decide +kernel
theorem dX7_writeComet_14 : decode cX7_writeComet 14 = .ok (.aload_n 0, 1) := by decide +kernel
theorem dX7_writeComet_15 : decode cX7_writeComet 15 = .ok (.getfield 46, 3) := by decide +kernel
theorem dX7_writeComet_18 : decode cX7_writeComet 18 = .ok (.aload_n 2, 1) := by decide +kernel
theorem dX7_writeComet_19 : decode cX7_writeComet 19 = .ok (.getfield 93, 3) := by decide +kernel
theorem dX7_writeComet_22 : decode cX7_writeComet 22 = .ok (.invokevirtual 365, 3) := by decide +kernel
theorem dX7_writeComet_25 : decode cX7_writeComet 25 = .ok (.bipush 42, 2) := by decide +kernel
theorem dX7_writeComet_27 : decode cX7_writeComet 27 = .ok (.invokevirtual 369, 3) := by decide +kernel
theorem dX7_writeComet_30 : decode cX7_writeComet 30 = .ok (.aload_n 2, 1) := by decide +kernel
theorem dX7_writeComet_31 : decode cX7_writeComet 31 = .ok (.getfield 135, 3) := by decide +kernel
theorem dX7_writeComet_34 : decode cX7_writeComet 34 = .ok (.invokevirtual 365, 3) := by decide +kernel
theorem dX7_writeComet_37 : decode cX7_writeComet 37 = .ok (.pop, 1) := by decide +kernel
theorem dX7_writeComet_38 : decode cX7_writeComet 38 = .ok (.aload_n 0, 1) := by decide +kernel
theorem dX7_writeComet_39 : decode cX7_writeComet 39 = .ok (.getfield 46, 3) := by decide +kernel
theorem dX7_writeComet_42 : decode cX7_writeComet 42 = .ok (.bipush 47, 2) := by decide +kernel
theorem dX7_writeComet_44 : decode cX7_writeComet 44 = .ok (.invokevirtual 369, 3) := by decide +kernel
theorem dX7_writeComet_47 : decode cX7_writeComet 47 = .ok (.aload_n 2, 1) := by decide +kernel
theorem dX7_writeComet_48 : decode cX7_writeComet 48 = .ok (.getfield 110, 3) := by decide +kernel
theorem dX7_writeComet_51 : decode cX7_writeComet 51 = .ok (.invokevirtual 365, 3) := by decide +kernel
theorem dX7_writeComet_54 : decode cX7_writeComet 54 = .ok (.bipush 64, 2) := by decide +kernel
theorem dX7_writeComet_56 : decode cX7_writeComet 56 = .ok (.invokevirtual 369, 3) := by decide +kernel
theorem dX7_writeComet_59 : decode cX7_writeComet 59 = .ok (.aload_n 2, 1) := by decide +kernel
theorem dX7_writeComet_60 : decode cX7_writeComet 60 = .ok (.getfield 191, 3) := by decide +kernel
theorem dX7_writeComet_63 : decode cX7_writeComet 63 = .ok (.invokevirtual 365, 3) := by decide +kernel
theorem dX7_writeComet_66 : decode cX7_writeComet 66 = .ok (.pop, 1) := by decide +kernel
theorem dX7_writeComet_67 : decode cX7_writeComet 67 = .ok (.aload_n 0, 1) := by decide +kernel
theorem dX7_writeComet_68 : decode cX7_writeComet 68 = .ok (.getfield 46, 3) := by decide +kernel
theorem dX7_writeComet_71 : decode cX7_writeComet 71 = .ok (.invokevirtual 372, 3) := by decide +kernel
theorem dX7_writeComet_74 : decode cX7_writeComet 74 = .ok (.ireturn, 1) := by decide +kernel
theorem dX7_writeRing_0 : decode cX7_writeRing 0 = .ok (.aload_n 0, 1) := by decide +kernel
theorem dX7_writeRing_1 : decode cX7_writeRing 1 = .ok (.getfield 46, 3) := by decide +kernel
theorem dX7_writeRing_4 : decode cX7_writeRing 4 = .ok (.iconst 0, 1) := by decide +kernel
theorem dX7_writeRing_5 : decode cX7_writeRing 5 = .ok (.invokevirtual 362, 3) := by decide +kernel
theorem dX7_writeRing_8 : decode cX7_writeRing 8 = .ok (.iconst 0, 1) := by decide +kernel
theorem dX7_writeRing_9 : decode cX7_writeRing 9 = .ok (.istore_n 1, 1) := by decide +kernel
theorem dX7_writeRing_10 : decode cX7_writeRing 10 = .ok (.iload_n 1, 1) := by decide +kernel
theorem dX7_writeRing_11 : decode cX7_writeRing 11 = .ok (.bipush 12, 2) := by decide +kernel
theorem dX7_writeRing_13 : decode cX7_writeRing 13 = .ok (.if_icmp .ge 43, 3) := by decide +kernel
theorem dX7_writeRing_16 : decode cX7_writeRing 16 = .ok (.iload_n 1, 1) := by decide +kernel
theorem dX7_writeRing_17 : decode cX7_writeRing 17 = .ok (.ifCond .le 13, 3) := by decide +kernel
theorem dX7_writeRing_20 : decode cX7_writeRing 20 = .ok (.aload_n 0, 1) := by decide +kernel
theorem dX7_writeRing_21 : decode cX7_writeRing 21 = .ok (.getfield 46, 3) := by decide +kernel
theorem dX7_writeRing_24 : decode cX7_writeRing 24 = .ok (.bipush 44, 2) := by decide +kernel
theorem dX7_writeRing_26 : decode cX7_writeRing 26 = .ok (.invokevirtual 369, 3) := by decide +kernel
theorem dX7_writeRing_29 : decode cX7_writeRing 29 = .ok (.pop, 1) := by decide +kernel
theorem dX7_writeRing_30 : decode cX7_writeRing 30 = .ok (.aload_n 0, 1) := by decide +kernel
theorem dX7_writeRing_31 : decode cX7_writeRing 31 = .ok (.getfield 46, 3) := by decide +kernel
theorem dX7_writeRing_34 : decode cX7_writeRing 34 = .ok (.aload_n 0, 1) := by decide +kernel
theorem dX7_writeRing_35 : decode cX7_writeRing 35 = .ok (.getfield 10, 3) := by decide +kernel
theorem dX7_writeRing_38 : decode cX7_writeRing 38 = .ok (.getfield 249, 3) := by decide +kernel
theorem dX7_writeRing_41 : decode cX7_writeRing 41 = .ok (.getfield 253, 3) := by decide +kernel
theorem dX7_writeRing_44 : decode cX7_writeRing 44 = .ok (.iload_n 1, 1) := by decide +kernel
theorem dX7_writeRing_45 : decode cX7_writeRing 45 = .ok (.iaload, 1) := by decide +kernel
theorem dX7_writeRing_46 : decode cX7_writeRing 46 = .ok (.invokevirtual 365, 3) := by decide +kernel
theorem dX7_writeRing_49 : decode cX7_writeRing 49 = .ok (.pop, 1) := by decide +kernel
theorem dX7_writeRing_50 : decode cX7_writeRing 50 = .ok (.iinc 1 1, 3) := by decide +kernel
theorem dX7_writeRing_53 : decode cX7_writeRing 53 = .ok (.goto (-43), 3) := by decide +kernel
theorem dX7_writeRing_56 : decode cX7_writeRing 56 = .ok (.aload_n 0, 1) := by decide +kernel
theorem dX7_writeRing_57 : decode cX7_writeRing 57 = .ok (.getfield 46, 3) := by decide +kernel
theorem dX7_writeRing_60 : decode cX7_writeRing 60 = .ok (.invokevirtual 372, 3) := by decide +kernel
theorem dX7_writeRing_63 : decode cX7_writeRing 63 = .ok (.ireturn, 1) := by decide +kernel
theorem dX7_outputAt_0 : decode cX7_outputAt 0 = .ok (.iload_n 1, 1) := by decide +kernel
theorem dX7_outputAt_1 : decode cX7_outputAt 1 = .ok (.ifCond .lt 14, 3) := by decide +kernel
theorem dX7_outputAt_4 : decode cX7_outputAt 4 = .ok (.iload_n 1, 1) := by decide +kernel
theorem dX7_outputAt_5 : decode cX7_outputAt 5 = .ok (.aload_n 0, 1) := by decide +kernel
theorem dX7_outputAt_6 : decode cX7_outputAt 6 = .ok (.getfield 46, 3) := by decide +kernel
theorem dX7_outputAt_9 : decode cX7_outputAt 9 = .ok (.invokevirtual 372, 3) := by decide +kernel
theorem dX7_outputAt_12 : decode cX7_outputAt 12 = .ok (.if_icmp .lt 14, 3) := by decide +kernel
theorem dX7_outputAt_15 : decode cX7_outputAt 15 = .ok (.new 150, 3) := by decide +kernel
theorem dX7_outputAt_18 : decode cX7_outputAt 18 = .ok (.dup, 1) := by decide +kernel
theorem dX7_outputAt_19 : decode cX7_outputAt 19 = .ok (.ldc_w 374, 3) := by decide +kernel
theorem dX7_outputAt_22 : decode cX7_outputAt 22 = .ok (.invokespecial 154, 3) := by decide +kernel
theorem dX7_outputAt_25 : decode cX7_outputAt 25 = .ok (.athrow, 1) := by decide +kernel
theorem dX7_outputAt_26 : decode cX7_outputAt 26 = .ok (.aload_n 0, 1) := by decide +kernel
theorem dX7_outputAt_27 : decode cX7_outputAt 27 = .ok (.getfield 46, 3) := by decide +kernel
theorem dX7_outputAt_30 : decode cX7_outputAt 30 = .ok (.iload_n 1, 1) := by decide +kernel
theorem dX7_outputAt_31 : decode cX7_outputAt 31 = .ok (.invokevirtual 376, 3) := by decide +kernel
theorem dX7_outputAt_34 : decode cX7_outputAt 34 = .ok (.ireturn, 1) := by decide +kernel
theorem dX7_existing_0 : decode cX7_existing 0 = .ok (.aload_n 0, 1) := by decide +kernel
theorem dX7_existing_1 : decode cX7_existing 1 = .ok (.getfield 10, 3) := by decide +kernel
theorem dX7_existing_4 : decode cX7_existing 4 = .ok (.iload_n 1, 1) := by decide +kernel
theorem dX7_existing_5 : decode cX7_existing 5 = .ok (.invokevirtual 390, 3) := by decide +kernel
theorem dX7_existing_8 : decode cX7_existing 8 = .ok (.astore_n 2, 1) := by decide +kernel
theorem dX7_existing_9 : decode cX7_existing 9 = .ok (.aload_n 2, 1) := by decide +kernel
theorem dX7_existing_10 : decode cX7_existing 10 = .ok (.ifnonnull 14, 3) := by decide +kernel
theorem dX7_existing_13 : decode cX7_existing 13 = .ok (.new 355, 3) := by decide +kernel
theorem dX7_existing_16 : decode cX7_existing 16 = .ok (.dup, 1) := by decide +kernel
theorem dX7_existing_17 : decode cX7_existing 17 = .ok (.ldc_w 393, 3) := by decide +kernel
theorem dX7_existing_20 : decode cX7_existing 20 = .ok (.invokespecial 359, 3) := by decide +kernel
theorem dX7_existing_23 : decode cX7_existing 23 = .ok (.athrow, 1) := by decide +kernel
theorem dX7_existing_24 : decode cX7_existing 24 = .ok (.aload_n 2, 1) := by decide +kernel
theorem dX7_existing_25 : decode cX7_existing 25 = .ok (.areturn, 1) := by decide +kernel
theorem dX7_isNewComet_0 : decode cX7_isNewComet 0 = .ok (.iload_n 0, 1) := by decide +kernel
theorem dX7_isNewComet_1 : decode cX7_isNewComet 1 = .ok (.invokestatic 105, 3) := by decide +kernel
theorem dX7_isNewComet_4 : decode cX7_isNewComet 4 = .ok (.ifCond .eq 25, 3) := by decide +kernel
theorem dX7_isNewComet_7 : decode cX7_isNewComet 7 = .ok (.iload_n 1, 1) := by decide +kernel
theorem dX7_isNewComet_8 : decode cX7_isNewComet 8 = .ok (.invokestatic 138, 3) := by decide +kernel
theorem dX7_isNewComet_11 : decode cX7_isNewComet 11 = .ok (.ifCond .eq 18, 3) := by decide +kernel
theorem dX7_isNewComet_14 : decode cX7_isNewComet 14 = .ok (.iload_n 2, 1) := by decide +kernel
theorem dX7_isNewComet_15 : decode cX7_isNewComet 15 = .ok (.iconst 1, 1) := by decide +kernel
theorem dX7_isNewComet_16 : decode cX7_isNewComet 16 = .ok (.if_icmp .lt 13, 3) := by decide +kernel
theorem dX7_isNewComet_19 : decode cX7_isNewComet 19 = .ok (.iload_n 2, 1) := by decide +kernel
theorem dX7_isNewComet_20 : decode cX7_isNewComet 20 = .ok (.bipush 20, 2) := by decide +kernel
theorem dX7_isNewComet_22 : decode cX7_isNewComet 22 = .ok (.if_icmp .gt 7, 3) := by decide +kernel
theorem dX7_isNewComet_25 : decode cX7_isNewComet 25 = .ok (.iconst 1, 1) := by decide +kernel
theorem dX7_isNewComet_26 : decode cX7_isNewComet 26 = .ok (.goto 4, 3) := by decide +kernel
theorem dX7_isNewComet_29 : decode cX7_isNewComet 29 = .ok (.iconst 0, 1) := by decide +kernel
theorem dX7_isNewComet_30 : decode cX7_isNewComet 30 = .ok (.ireturn, 1) := by decide +kernel
theorem dX7_isPeriod_0 : decode cX7_isPeriod 0 = .ok (.iload_n 0, 1) := by decide +kernel
theorem dX7_isPeriod_1 : decode cX7_isPeriod 1 = .ok (.iconst 2, 1) := by decide +kernel
theorem dX7_isPeriod_2 : decode cX7_isPeriod 2 = .ok (.if_icmp .lt 13, 3) := by decide +kernel
theorem dX7_isPeriod_5 : decode cX7_isPeriod 5 = .ok (.iload_n 0, 1) := by decide +kernel
theorem dX7_isPeriod_6 : decode cX7_isPeriod 6 = .ok (.bipush 60, 2) := by decide +kernel
theorem dX7_isPeriod_8 : decode cX7_isPeriod 8 = .ok (.if_icmp .gt 7, 3) := by decide +kernel
theorem dX7_isPeriod_11 : decode cX7_isPeriod 11 = .ok (.iconst 1, 1) := by decide +kernel
theorem dX7_isPeriod_12 : decode cX7_isPeriod 12 = .ok (.goto 4, 3) := by decide +kernel
theorem dX7_isPeriod_15 : decode cX7_isPeriod 15 = .ok (.iconst 0, 1) := by decide +kernel
theorem dX7_isPeriod_16 : decode cX7_isPeriod 16 = .ok (.ireturn, 1) := by decide +kernel
theorem dX7_isAmount_0 : decode cX7_isAmount 0 = .ok (.iload_n 0, 1) := by decide +kernel
theorem dX7_isAmount_1 : decode cX7_isAmount 1 = .ok (.iconst 1, 1) := by decide +kernel
theorem dX7_isAmount_2 : decode cX7_isAmount 2 = .ok (.if_icmp .lt 13, 3) := by decide +kernel
theorem dX7_isAmount_5 : decode cX7_isAmount 5 = .ok (.iload_n 0, 1) := by decide +kernel
theorem dX7_isAmount_6 : decode cX7_isAmount 6 = .ok (.bipush 20, 2) := by decide +kernel
theorem dX7_isAmount_8 : decode cX7_isAmount 8 = .ok (.if_icmp .ge 7, 3) := by decide +kernel
theorem dX7_isAmount_11 : decode cX7_isAmount 11 = .ok (.iconst 1, 1) := by decide +kernel
theorem dX7_isAmount_12 : decode cX7_isAmount 12 = .ok (.goto 4, 3) := by decide +kernel
theorem dX7_isAmount_15 : decode cX7_isAmount 15 = .ok (.iconst 0, 1) := by decide +kernel
theorem dX7_isAmount_16 : decode cX7_isAmount 16 = .ok (.ireturn, 1) := by decide +kernel
theorem dX7_isSpanOfDays_0 : decode cX7_isSpanOfDays 0 = .ok (.iload_n 0, 1) := by decide +kernel
theorem dX7_isSpanOfDays_1 : decode cX7_isSpanOfDays 1 = .ok (.iconst 1, 1) := by decide +kernel
theorem dX7_isSpanOfDays_2 : decode cX7_isSpanOfDays 2 = .ok (.if_icmp .lt 13, 3) := by decide +kernel
theorem dX7_isSpanOfDays_5 : decode cX7_isSpanOfDays 5 = .ok (.iload_n 0, 1) := by decide +kernel
theorem dX7_isSpanOfDays_6 : decode cX7_isSpanOfDays 6 = .ok (.bipush 60, 2) := by decide +kernel
theorem dX7_isSpanOfDays_8 : decode cX7_isSpanOfDays 8 = .ok (.if_icmp .gt 7, 3) := by decide +kernel
theorem dX7_isSpanOfDays_11 : decode cX7_isSpanOfDays 11 = .ok (.iconst 1, 1) := by decide +kernel
theorem dX7_isSpanOfDays_12 : decode cX7_isSpanOfDays 12 = .ok (.goto 4, 3) := by decide +kernel
theorem dX7_isSpanOfDays_15 : decode cX7_isSpanOfDays 15 = .ok (.iconst 0, 1) := by decide +kernel
theorem dX7_isSpanOfDays_16 : decode cX7_isSpanOfDays 16 = .ok (.ireturn, 1) := by decide +kernel
theorem dX7_isSpanToLookAt_0 : decode cX7_isSpanToLookAt 0 = .ok (.iload_n 0, 1) := by decide +kernel
theorem dX7_isSpanToLookAt_1 : decode cX7_isSpanToLookAt 1 = .ok (.ifCond .lt 13, 3) := by decide +kernel
theorem dX7_isSpanToLookAt_4 : decode cX7_isSpanToLookAt 4 = .ok (.iload_n 0, 1) := by decide +kernel
theorem dX7_isSpanToLookAt_5 : decode cX7_isSpanToLookAt 5 = .ok (.bipush 60, 2) := by decide +kernel
theorem dX7_isSpanToLookAt_7 : decode cX7_isSpanToLookAt 7 = .ok (.if_icmp .gt 7, 3) := by decide +kernel
theorem dX7_isSpanToLookAt_10 : decode cX7_isSpanToLookAt 10 = .ok (.iconst 1, 1) := by decide +kernel
theorem dX7_isSpanToLookAt_11 : decode cX7_isSpanToLookAt 11 = .ok (.goto 4, 3) := by decide +kernel
theorem dX7_isSpanToLookAt_14 : decode cX7_isSpanToLookAt 14 = .ok (.iconst 0, 1) := by decide +kernel
theorem dX7_isSpanToLookAt_15 : decode cX7_isSpanToLookAt 15 = .ok (.ireturn, 1) := by decide +kernel
theorem dX7_isPlace_0 : decode cX7_isPlace 0 = .ok (.iload_n 0, 1) := by decide +kernel
theorem dX7_isPlace_1 : decode cX7_isPlace 1 = .ok (.ifCond .lt 13, 3) := by decide +kernel
theorem dX7_isPlace_4 : decode cX7_isPlace 4 = .ok (.iload_n 0, 1) := by decide +kernel
theorem dX7_isPlace_5 : decode cX7_isPlace 5 = .ok (.bipush 12, 2) := by decide +kernel
theorem dX7_isPlace_7 : decode cX7_isPlace 7 = .ok (.if_icmp .ge 7, 3) := by decide +kernel
theorem dX7_isPlace_10 : decode cX7_isPlace 10 = .ok (.iconst 1, 1) := by decide +kernel
theorem dX7_isPlace_11 : decode cX7_isPlace 11 = .ok (.goto 4, 3) := by decide +kernel
theorem dX7_isPlace_14 : decode cX7_isPlace 14 = .ok (.iconst 0, 1) := by decide +kernel
theorem dX7_isPlace_15 : decode cX7_isPlace 15 = .ok (.ireturn, 1) := by decide +kernel
theorem dX7_isLengthOfArc_0 : decode cX7_isLengthOfArc 0 = .ok (.iload_n 0, 1) := by decide +kernel
theorem dX7_isLengthOfArc_1 : decode cX7_isLengthOfArc 1 = .ok (.iconst 1, 1) := by decide +kernel
theorem dX7_isLengthOfArc_2 : decode cX7_isLengthOfArc 2 = .ok (.if_icmp .lt 13, 3) := by decide +kernel
theorem dX7_isLengthOfArc_5 : decode cX7_isLengthOfArc 5 = .ok (.iload_n 0, 1) := by decide +kernel
theorem dX7_isLengthOfArc_6 : decode cX7_isLengthOfArc 6 = .ok (.bipush 12, 2) := by decide +kernel
theorem dX7_isLengthOfArc_8 : decode cX7_isLengthOfArc 8 = .ok (.if_icmp .gt 7, 3) := by decide +kernel
theorem dX7_isLengthOfArc_11 : decode cX7_isLengthOfArc 11 = .ok (.iconst 1, 1) := by decide +kernel
theorem dX7_isLengthOfArc_12 : decode cX7_isLengthOfArc 12 = .ok (.goto 4, 3) := by decide +kernel
theorem dX7_isLengthOfArc_15 : decode cX7_isLengthOfArc 15 = .ok (.iconst 0, 1) := by decide +kernel
theorem dX7_isLengthOfArc_16 : decode cX7_isLengthOfArc 16 = .ok (.ireturn, 1) := by decide +kernel
theorem dX7_isRate_0 : decode cX7_isRate 0 = .ok (.iload_n 0, 1) := by decide +kernel
theorem dX7_isRate_1 : decode cX7_isRate 1 = .ok (.ifCond .lt 13, 3) := by decide +kernel
theorem dX7_isRate_4 : decode cX7_isRate 4 = .ok (.iload_n 0, 1) := by decide +kernel
theorem dX7_isRate_5 : decode cX7_isRate 5 = .ok (.bipush 9, 2) := by decide +kernel
theorem dX7_isRate_7 : decode cX7_isRate 7 = .ok (.if_icmp .gt 7, 3) := by decide +kernel
theorem dX7_isRate_10 : decode cX7_isRate 10 = .ok (.iconst 1, 1) := by decide +kernel
theorem dX7_isRate_11 : decode cX7_isRate 11 = .ok (.goto 4, 3) := by decide +kernel
theorem dX7_isRate_14 : decode cX7_isRate 14 = .ok (.iconst 0, 1) := by decide +kernel
theorem dX7_isRate_15 : decode cX7_isRate 15 = .ok (.ireturn, 1) := by decide +kernel
theorem dX7_tailAt_0 : decode cX7_tailAt 0 = .ok (.iconst 1, 1) := by decide +kernel
theorem dX7_tailAt_1 : decode cX7_tailAt 1 = .ok (.iload_n 0, 1) := by decide +kernel
theorem dX7_tailAt_2 : decode cX7_tailAt 2 = .ok (.iconst 5, 1) := by decide +kernel
theorem dX7_tailAt_3 : decode cX7_tailAt 3 = .ok (.idiv, 1) := by decide +kernel
theorem dX7_tailAt_4 : decode cX7_tailAt 4 = .ok (.iadd, 1) := by decide +kernel
theorem dX7_tailAt_5 : decode cX7_tailAt 5 = .ok (.ireturn, 1) := by decide +kernel
theorem dJ5_init_d00df_0 : decode cJ5_init_d00df 0 = .ok (.aload_n 0, 1) := by decide +kernel
theorem dJ5_init_d00df_1 : decode cJ5_init_d00df 1 = .ok (.invokespecial 3, 3) := by decide +kernel
theorem dJ5_init_d00df_4 : decode cJ5_init_d00df 4 = .ok (.getstatic 18, 3) := by decide +kernel
theorem dJ5_init_d00df_7 : decode cJ5_init_d00df 7 = .ok (.ifCond .eq 18, 3) := by decide +kernel
theorem dJ5_init_d00df_10 : decode cJ5_init_d00df 10 = .ok (.aload_n 0, 1) := by decide +kernel
theorem dJ5_init_d00df_11 : decode cJ5_init_d00df 11 = .ok (.iload_n 1, 1) := by decide +kernel
theorem dJ5_init_d00df_12 : decode cJ5_init_d00df 12 = .ok (.newarray .byte, 2) := by decide +kernel
theorem dJ5_init_d00df_14 : decode cJ5_init_d00df 14 = .ok (.putfield 15, 3) := by decide +kernel
theorem dJ5_init_d00df_17 : decode cJ5_init_d00df 17 = .ok (.aload_n 0, 1) := by decide +kernel
theorem dJ5_init_d00df_18 : decode cJ5_init_d00df 18 = .ok (.iconst 0, 1) := by decide +kernel
theorem dJ5_init_d00df_19 : decode cJ5_init_d00df 19 = .ok (.putfield 22, 3) := by decide +kernel
theorem dJ5_init_d00df_22 : decode cJ5_init_d00df 22 = .ok (.goto 16, 3) := by decide +kernel
theorem dJ5_init_d00df_25 : decode cJ5_init_d00df 25 = .ok (.aload_n 0, 1) := by decide +kernel
theorem dJ5_init_d00df_26 : decode cJ5_init_d00df 26 = .ok (.iload_n 1, 1) := by decide +kernel
theorem dJ5_init_d00df_27 : decode cJ5_init_d00df 27 = .ok (.invokestatic 26, 3) := by decide +kernel
theorem dJ5_init_d00df_30 : decode cJ5_init_d00df 30 = .ok (.putfield 15, 3) := by decide +kernel
theorem dJ5_init_d00df_33 : decode cJ5_init_d00df 33 = .ok (.aload_n 0, 1) := by decide +kernel
theorem dJ5_init_d00df_34 : decode cJ5_init_d00df 34 = .ok (.iconst 1, 1) := by decide +kernel
theorem dJ5_init_d00df_35 : decode cJ5_init_d00df 35 = .ok (.putfield 22, 3) := by decide +kernel
theorem dJ5_init_d00df_38 : decode cJ5_init_d00df 38 = .ok (.return_, 1) := by decide +kernel
theorem dJ5_length_8abf5_0 : decode cJ5_length_8abf5 0 = .ok (.aload_n 0, 1) := by decide +kernel
theorem dJ5_length_8abf5_1 : decode cJ5_length_8abf5 1 = .ok (.getfield 79, 3) := by decide +kernel
theorem dJ5_length_8abf5_4 : decode cJ5_length_8abf5 4 = .ok (.ireturn, 1) := by decide +kernel
theorem dJ5_ensureCapacityInternal_d00df_0 : decode cJ5_ensureCapacityInternal_d00df 0 = .ok (.aload_n 0, 1) := by decide +kernel
theorem dJ5_ensureCapacityInternal_d00df_1 : decode cJ5_ensureCapacityInternal_d00df 1 = .ok (.getfield 15, 3) := by decide +kernel
theorem dJ5_ensureCapacityInternal_d00df_4 : decode cJ5_ensureCapacityInternal_d00df 4 = .ok (.arraylength, 1) := by decide +kernel
theorem dJ5_ensureCapacityInternal_d00df_5 : decode cJ5_ensureCapacityInternal_d00df 5 = .ok (.aload_n 0, 1) := by decide +kernel
theorem dJ5_ensureCapacityInternal_d00df_6 : decode cJ5_ensureCapacityInternal_d00df 6 = .ok (.getfield 22, 3) := by decide +kernel
theorem dJ5_ensureCapacityInternal_d00df_9 : decode cJ5_ensureCapacityInternal_d00df 9 = .ok (.ishr, 1) := by decide +kernel
theorem dJ5_ensureCapacityInternal_d00df_10 : decode cJ5_ensureCapacityInternal_d00df 10 = .ok (.istore_n 2, 1) := by decide +kernel
theorem dJ5_ensureCapacityInternal_d00df_11 : decode cJ5_ensureCapacityInternal_d00df 11 = .ok (.iload_n 1, 1) := by decide +kernel
theorem dJ5_ensureCapacityInternal_d00df_12 : decode cJ5_ensureCapacityInternal_d00df 12 = .ok (.iload_n 2, 1) := by decide +kernel
theorem dJ5_ensureCapacityInternal_d00df_13 : decode cJ5_ensureCapacityInternal_d00df 13 = .ok (.isub, 1) := by decide +kernel
theorem dJ5_ensureCapacityInternal_d00df_14 : decode cJ5_ensureCapacityInternal_d00df 14 = .ok (.ifCond .le 24, 3) := by decide +kernel
theorem dJ5_ensureCapacityInternal_d00df_17 : decode cJ5_ensureCapacityInternal_d00df 17 = .ok (.aload_n 0, 1) := by decide +kernel
theorem dJ5_ensureCapacityInternal_d00df_18 : decode cJ5_ensureCapacityInternal_d00df 18 = .ok (.aload_n 0, 1) := by decide +kernel
theorem dJ5_ensureCapacityInternal_d00df_19 : decode cJ5_ensureCapacityInternal_d00df 19 = .ok (.getfield 15, 3) := by decide +kernel
theorem dJ5_ensureCapacityInternal_d00df_22 : decode cJ5_ensureCapacityInternal_d00df 22 = .ok (.aload_n 0, 1) := by decide +kernel
theorem dJ5_ensureCapacityInternal_d00df_23 : decode cJ5_ensureCapacityInternal_d00df 23 = .ok (.iload_n 1, 1) := by decide +kernel
theorem dJ5_ensureCapacityInternal_d00df_24 : decode cJ5_ensureCapacityInternal_d00df 24 = .ok (.invokevirtual 104, 3) := by decide +kernel
theorem dJ5_ensureCapacityInternal_d00df_27 : decode cJ5_ensureCapacityInternal_d00df 27 = .ok (.aload_n 0, 1) := by decide +kernel
theorem dJ5_ensureCapacityInternal_d00df_28 : decode cJ5_ensureCapacityInternal_d00df 28 = .ok (.getfield 22, 3) := by decide +kernel
theorem dJ5_ensureCapacityInternal_d00df_31 : decode cJ5_ensureCapacityInternal_d00df 31 = .ok (.ishl, 1) := by decide +kernel
theorem dJ5_ensureCapacityInternal_d00df_32 : decode cJ5_ensureCapacityInternal_d00df 32 = .ok (.invokestatic 108, 3) := by decide +kernel
theorem dJ5_ensureCapacityInternal_d00df_35 : decode cJ5_ensureCapacityInternal_d00df 35 = .ok (.putfield 15, 3) := by decide +kernel
theorem dJ5_ensureCapacityInternal_d00df_38 : decode cJ5_ensureCapacityInternal_d00df 38 = .ok (.return_, 1) := by decide +kernel
theorem dJ5_newCapacity_0f7a4_0 : decode cJ5_newCapacity_0f7a4 0 = .ok (.aload_n 0, 1) := by decide +kernel
theorem dJ5_newCapacity_0f7a4_1 : decode cJ5_newCapacity_0f7a4 1 = .ok (.getfield 15, 3) := by decide +kernel
theorem dJ5_newCapacity_0f7a4_4 : decode cJ5_newCapacity_0f7a4 4 = .ok (.arraylength, 1) := by decide +kernel
theorem dJ5_newCapacity_0f7a4_5 : decode cJ5_newCapacity_0f7a4 5 = .ok (.istore_n 2, 1) := by decide +kernel
theorem dJ5_newCapacity_0f7a4_6 : decode cJ5_newCapacity_0f7a4 6 = .ok (.iload_n 1, 1) := by decide +kernel
theorem dJ5_newCapacity_0f7a4_7 : decode cJ5_newCapacity_0f7a4 7 = .ok (.aload_n 0, 1) := by decide +kernel
theorem dJ5_newCapacity_0f7a4_8 : decode cJ5_newCapacity_0f7a4 8 = .ok (.getfield 22, 3) := by decide +kernel
theorem dJ5_newCapacity_0f7a4_11 : decode cJ5_newCapacity_0f7a4 11 = .ok (.ishl, 1) := by decide +kernel
theorem dJ5_newCapacity_0f7a4_12 : decode cJ5_newCapacity_0f7a4 12 = .ok (.istore_n 3, 1) := by decide +kernel
theorem dJ5_newCapacity_0f7a4_13 : decode cJ5_newCapacity_0f7a4 13 = .ok (.iload_n 3, 1) := by decide +kernel
theorem dJ5_newCapacity_0f7a4_14 : decode cJ5_newCapacity_0f7a4 14 = .ok (.iload_n 2, 1) := by decide +kernel
theorem dJ5_newCapacity_0f7a4_15 : decode cJ5_newCapacity_0f7a4 15 = .ok (.isub, 1) := by decide +kernel
theorem dJ5_newCapacity_0f7a4_16 : decode cJ5_newCapacity_0f7a4 16 = .ok (.istore 4, 2) := by decide +kernel
theorem dJ5_newCapacity_0f7a4_18 : decode cJ5_newCapacity_0f7a4 18 = .ok (.iload_n 2, 1) := by decide +kernel
theorem dJ5_newCapacity_0f7a4_19 : decode cJ5_newCapacity_0f7a4 19 = .ok (.iload 4, 2) := by decide +kernel
theorem dJ5_newCapacity_0f7a4_21 : decode cJ5_newCapacity_0f7a4 21 = .ok (.iload_n 2, 1) := by decide +kernel
theorem dJ5_newCapacity_0f7a4_22 : decode cJ5_newCapacity_0f7a4 22 = .ok (.iconst 2, 1) := by decide +kernel
theorem dJ5_newCapacity_0f7a4_23 : decode cJ5_newCapacity_0f7a4 23 = .ok (.aload_n 0, 1) := by decide +kernel
theorem dJ5_newCapacity_0f7a4_24 : decode cJ5_newCapacity_0f7a4 24 = .ok (.getfield 22, 3) := by decide +kernel
theorem dJ5_newCapacity_0f7a4_27 : decode cJ5_newCapacity_0f7a4 27 = .ok (.ishl, 1) := by decide +kernel
theorem dJ5_newCapacity_0f7a4_28 : decode cJ5_newCapacity_0f7a4 28 = .ok (.iadd, 1) := by decide +kernel
theorem dJ5_newCapacity_0f7a4_29 : decode cJ5_newCapacity_0f7a4 29 = .ok (.invokestatic 114, 3) := by decide +kernel
theorem dJ5_newCapacity_0f7a4_32 : decode cJ5_newCapacity_0f7a4 32 = .ok (.istore 5, 2) := by decide +kernel
theorem dJ5_newCapacity_0f7a4_34 : decode cJ5_newCapacity_0f7a4 34 = .ok (.iload 5, 2) := by decide +kernel
theorem dJ5_newCapacity_0f7a4_36 : decode cJ5_newCapacity_0f7a4 36 = .ok (.ldc 39, 2) := by decide +kernel
theorem dJ5_newCapacity_0f7a4_38 : decode cJ5_newCapacity_0f7a4 38 = .ok (.if_icmp .ne 13, 3) := by decide +kernel
theorem dJ5_newCapacity_0f7a4_41 : decode cJ5_newCapacity_0f7a4 41 = .ok (.new 120, 3) := by decide +kernel
theorem dJ5_newCapacity_0f7a4_44 : decode cJ5_newCapacity_0f7a4 44 = .ok (.dup, 1) := by decide +kernel
theorem dJ5_newCapacity_0f7a4_45 : decode cJ5_newCapacity_0f7a4 45 = .ok (.ldc 122, 2) := by decide +kernel
theorem dJ5_newCapacity_0f7a4_47 : decode cJ5_newCapacity_0f7a4 47 = .ok (.invokespecial 124, 3) := by decide +kernel
theorem dJ5_newCapacity_0f7a4_50 : decode cJ5_newCapacity_0f7a4 50 = .ok (.athrow, 1) := by decide +kernel
theorem dJ5_newCapacity_0f7a4_51 : decode cJ5_newCapacity_0f7a4 51 = .ok (.iload 5, 2) := by decide +kernel
theorem dJ5_newCapacity_0f7a4_53 : decode cJ5_newCapacity_0f7a4 53 = .ok (.aload_n 0, 1) := by decide +kernel
theorem dJ5_newCapacity_0f7a4_54 : decode cJ5_newCapacity_0f7a4 54 = .ok (.getfield 22, 3) := by decide +kernel
theorem dJ5_newCapacity_0f7a4_57 : decode cJ5_newCapacity_0f7a4 57 = .ok (.ishr, 1) := by decide +kernel
theorem dJ5_newCapacity_0f7a4_58 : decode cJ5_newCapacity_0f7a4 58 = .ok (.ireturn, 1) := by decide +kernel
theorem dJ5_inflate_da8c8_0 : decode cJ5_inflate_da8c8 0 = .ok (.aload_n 0, 1) := by decide +kernel
theorem dJ5_inflate_da8c8_1 : decode cJ5_inflate_da8c8 1 = .ok (.invokevirtual 83, 3) := by decide +kernel
theorem dJ5_inflate_da8c8_4 : decode cJ5_inflate_da8c8 4 = .ok (.ifCond .ne 4, 3) := by decide +kernel
theorem dJ5_inflate_da8c8_7 : decode cJ5_inflate_da8c8 7 = .ok (.return_, 1) := by decide +kernel
theorem dJ5_inflate_da8c8_8 : decode cJ5_inflate_da8c8 8 = .ok (.aload_n 0, 1) := by decide +kernel
theorem dJ5_inflate_da8c8_9 : decode cJ5_inflate_da8c8 9 = .ok (.getfield 15, 3) := by decide +kernel
theorem dJ5_inflate_da8c8_12 : decode cJ5_inflate_da8c8 12 = .ok (.arraylength, 1) := by decide +kernel
theorem dJ5_inflate_da8c8_13 : decode cJ5_inflate_da8c8 13 = .ok (.invokestatic 26, 3) := by decide +kernel
theorem dJ5_inflate_da8c8_16 : decode cJ5_inflate_da8c8 16 = .ok (.astore_n 1, 1) := by decide +kernel
theorem dJ5_inflate_da8c8_17 : decode cJ5_inflate_da8c8 17 = .ok (.aload_n 0, 1) := by decide +kernel
theorem dJ5_inflate_da8c8_18 : decode cJ5_inflate_da8c8 18 = .ok (.getfield 15, 3) := by decide +kernel
theorem dJ5_inflate_da8c8_21 : decode cJ5_inflate_da8c8 21 = .ok (.iconst 0, 1) := by decide +kernel
theorem dJ5_inflate_da8c8_22 : decode cJ5_inflate_da8c8 22 = .ok (.aload_n 1, 1) := by decide +kernel
theorem dJ5_inflate_da8c8_23 : decode cJ5_inflate_da8c8 23 = .ok (.iconst 0, 1) := by decide +kernel
theorem dJ5_inflate_da8c8_24 : decode cJ5_inflate_da8c8 24 = .ok (.aload_n 0, 1) := by decide +kernel
theorem dJ5_inflate_da8c8_25 : decode cJ5_inflate_da8c8 25 = .ok (.getfield 79, 3) := by decide +kernel
theorem dJ5_inflate_da8c8_28 : decode cJ5_inflate_da8c8 28 = .ok (.invokestatic 125, 3) := by decide +kernel
theorem dJ5_inflate_da8c8_31 : decode cJ5_inflate_da8c8 31 = .ok (.aload_n 0, 1) := by decide +kernel
theorem dJ5_inflate_da8c8_32 : decode cJ5_inflate_da8c8 32 = .ok (.aload_n 1, 1) := by decide +kernel
theorem dJ5_inflate_da8c8_33 : decode cJ5_inflate_da8c8 33 = .ok (.putfield 15, 3) := by decide +kernel
theorem dJ5_inflate_da8c8_36 : decode cJ5_inflate_da8c8 36 = .ok (.aload_n 0, 1) := by decide +kernel
theorem dJ5_inflate_da8c8_37 : decode cJ5_inflate_da8c8 37 = .ok (.iconst 1, 1) := by decide +kernel
theorem dJ5_inflate_da8c8_38 : decode cJ5_inflate_da8c8 38 = .ok (.putfield 22, 3) := by decide +kernel
theorem dJ5_inflate_da8c8_41 : decode cJ5_inflate_da8c8 41 = .ok (.return_, 1) := by decide +kernel
theorem dJ5_setLength_d00df_0 : decode cJ5_setLength_d00df 0 = .ok (.iload_n 1, 1) := by decide +kernel
theorem dJ5_setLength_d00df_1 : decode cJ5_setLength_d00df 1 = .ok (.ifCond .ge 12, 3) := by decide +kernel
theorem dJ5_setLength_d00df_4 : decode cJ5_setLength_d00df 4 = .ok (.new 129, 3) := by decide +kernel
theorem dJ5_setLength_d00df_7 : decode cJ5_setLength_d00df 7 = .ok (.dup, 1) := by decide +kernel
theorem dJ5_setLength_d00df_8 : decode cJ5_setLength_d00df 8 = .ok (.iload_n 1, 1) := by decide +kernel
theorem dJ5_setLength_d00df_9 : decode cJ5_setLength_d00df 9 = .ok (.invokespecial 131, 3) := by decide +kernel
theorem dJ5_setLength_d00df_12 : decode cJ5_setLength_d00df 12 = .ok (.athrow, 1) := by decide +kernel
theorem dJ5_setLength_d00df_13 : decode cJ5_setLength_d00df 13 = .ok (.aload_n 0, 1) := by decide +kernel
theorem dJ5_setLength_d00df_14 : decode cJ5_setLength_d00df 14 = .ok (.iload_n 1, 1) := by decide +kernel
theorem dJ5_setLength_d00df_15 : decode cJ5_setLength_d00df 15 = .ok (.invokevirtual 100, 3) := by decide +kernel
theorem dJ5_setLength_d00df_18 : decode cJ5_setLength_d00df 18 = .ok (.aload_n 0, 1) := by decide +kernel
theorem dJ5_setLength_d00df_19 : decode cJ5_setLength_d00df 19 = .ok (.getfield 79, 3) := by decide +kernel
theorem dJ5_setLength_d00df_22 : decode cJ5_setLength_d00df 22 = .ok (.iload_n 1, 1) := by decide +kernel
theorem dJ5_setLength_d00df_23 : decode cJ5_setLength_d00df 23 = .ok (.if_icmp .ge 40, 3) := by decide +kernel
theorem dJ5_setLength_d00df_26 : decode cJ5_setLength_d00df 26 = .ok (.aload_n 0, 1) := by decide +kernel
theorem dJ5_setLength_d00df_27 : decode cJ5_setLength_d00df 27 = .ok (.invokevirtual 83, 3) := by decide +kernel
theorem dJ5_setLength_d00df_30 : decode cJ5_setLength_d00df 30 = .ok (.ifCond .eq 18, 3) := by decide +kernel
theorem dJ5_setLength_d00df_33 : decode cJ5_setLength_d00df 33 = .ok (.aload_n 0, 1) := by decide +kernel
theorem dJ5_setLength_d00df_34 : decode cJ5_setLength_d00df 34 = .ok (.getfield 15, 3) := by decide +kernel
theorem dJ5_setLength_d00df_37 : decode cJ5_setLength_d00df 37 = .ok (.aload_n 0, 1) := by decide +kernel
theorem dJ5_setLength_d00df_38 : decode cJ5_setLength_d00df 38 = .ok (.getfield 79, 3) := by decide +kernel
theorem dJ5_setLength_d00df_41 : decode cJ5_setLength_d00df 41 = .ok (.iload_n 1, 1) := by decide +kernel
theorem dJ5_setLength_d00df_42 : decode cJ5_setLength_d00df 42 = .ok (.invokestatic 133, 3) := by decide +kernel
theorem dJ5_setLength_d00df_45 : decode cJ5_setLength_d00df 45 = .ok (.goto 31, 3) := by decide +kernel
theorem dJ5_setLength_d00df_48 : decode cJ5_setLength_d00df 48 = .ok (.aload_n 0, 1) := by decide +kernel
theorem dJ5_setLength_d00df_49 : decode cJ5_setLength_d00df 49 = .ok (.getfield 15, 3) := by decide +kernel
theorem dJ5_setLength_d00df_52 : decode cJ5_setLength_d00df 52 = .ok (.aload_n 0, 1) := by decide +kernel
theorem dJ5_setLength_d00df_53 : decode cJ5_setLength_d00df 53 = .ok (.getfield 79, 3) := by decide +kernel
theorem dJ5_setLength_d00df_56 : decode cJ5_setLength_d00df 56 = .ok (.iload_n 1, 1) := by decide +kernel
theorem dJ5_setLength_d00df_57 : decode cJ5_setLength_d00df 57 = .ok (.invokestatic 137, 3) := by decide +kernel
theorem dJ5_setLength_d00df_60 : decode cJ5_setLength_d00df 60 = .ok (.goto 16, 3) := by decide +kernel
theorem dJ5_setLength_d00df_63 : decode cJ5_setLength_d00df 63 = .ok (.aload_n 0, 1) := by decide +kernel
theorem dJ5_setLength_d00df_64 : decode cJ5_setLength_d00df 64 = .ok (.getfield 79, 3) := by decide +kernel
theorem dJ5_setLength_d00df_67 : decode cJ5_setLength_d00df 67 = .ok (.iload_n 1, 1) := by decide +kernel
theorem dJ5_setLength_d00df_68 : decode cJ5_setLength_d00df 68 = .ok (.if_icmp .le 8, 3) := by decide +kernel
theorem dJ5_setLength_d00df_71 : decode cJ5_setLength_d00df 71 = .ok (.aload_n 0, 1) := by decide +kernel
theorem dJ5_setLength_d00df_72 : decode cJ5_setLength_d00df 72 = .ok (.iconst 1, 1) := by decide +kernel
theorem dJ5_setLength_d00df_73 : decode cJ5_setLength_d00df 73 = .ok (.putfield 73, 3) := by decide +kernel
theorem dJ5_setLength_d00df_76 : decode cJ5_setLength_d00df 76 = .ok (.aload_n 0, 1) := by decide +kernel
theorem dJ5_setLength_d00df_77 : decode cJ5_setLength_d00df 77 = .ok (.iload_n 1, 1) := by decide +kernel
theorem dJ5_setLength_d00df_78 : decode cJ5_setLength_d00df 78 = .ok (.putfield 79, 3) := by decide +kernel
theorem dJ5_setLength_d00df_81 : decode cJ5_setLength_d00df 81 = .ok (.return_, 1) := by decide +kernel
theorem dJ5_charAt_5068e_0 : decode cJ5_charAt_5068e 0 = .ok (.aload_n 0, 1) := by decide +kernel
theorem dJ5_charAt_5068e_1 : decode cJ5_charAt_5068e 1 = .ok (.getfield 22, 3) := by decide +kernel
theorem dJ5_charAt_5068e_4 : decode cJ5_charAt_5068e 4 = .ok (.istore_n 2, 1) := by decide +kernel
theorem dJ5_charAt_5068e_5 : decode cJ5_charAt_5068e 5 = .ok (.aload_n 0, 1) := by decide +kernel
theorem dJ5_charAt_5068e_6 : decode cJ5_charAt_5068e 6 = .ok (.getfield 15, 3) := by decide +kernel
theorem dJ5_charAt_5068e_9 : decode cJ5_charAt_5068e 9 = .ok (.astore_n 3, 1) := by decide +kernel
theorem dJ5_charAt_5068e_10 : decode cJ5_charAt_5068e 10 = .ok (.aload_n 0, 1) := by decide +kernel
theorem dJ5_charAt_5068e_11 : decode cJ5_charAt_5068e 11 = .ok (.getfield 79, 3) := by decide +kernel
theorem dJ5_charAt_5068e_14 : decode cJ5_charAt_5068e 14 = .ok (.aload_n 3, 1) := by decide +kernel
theorem dJ5_charAt_5068e_15 : decode cJ5_charAt_5068e 15 = .ok (.arraylength, 1) := by decide +kernel
theorem dJ5_charAt_5068e_16 : decode cJ5_charAt_5068e 16 = .ok (.iload_n 2, 1) := by decide +kernel
theorem dJ5_charAt_5068e_17 : decode cJ5_charAt_5068e 17 = .ok (.ishr, 1) := by decide +kernel
theorem dJ5_charAt_5068e_18 : decode cJ5_charAt_5068e 18 = .ok (.invokestatic 138, 3) := by decide +kernel
theorem dJ5_charAt_5068e_21 : decode cJ5_charAt_5068e 21 = .ok (.istore 4, 2) := by decide +kernel
theorem dJ5_charAt_5068e_23 : decode cJ5_charAt_5068e 23 = .ok (.iload_n 1, 1) := by decide +kernel
theorem dJ5_charAt_5068e_24 : decode cJ5_charAt_5068e 24 = .ok (.iload 4, 2) := by decide +kernel
theorem dJ5_charAt_5068e_26 : decode cJ5_charAt_5068e 26 = .ok (.invokestatic 144, 3) := by decide +kernel
theorem dJ5_charAt_5068e_29 : decode cJ5_charAt_5068e 29 = .ok (.iload_n 2, 1) := by decide +kernel
theorem dJ5_charAt_5068e_30 : decode cJ5_charAt_5068e 30 = .ok (.ifCond .ne 12, 3) := by decide +kernel
theorem dJ5_charAt_5068e_33 : decode cJ5_charAt_5068e 33 = .ok (.aload_n 3, 1) := by decide +kernel
theorem dJ5_charAt_5068e_34 : decode cJ5_charAt_5068e 34 = .ok (.iload_n 1, 1) := by decide +kernel
theorem dJ5_charAt_5068e_35 : decode cJ5_charAt_5068e 35 = .ok (.baload, 1) := by decide +kernel
theorem dJ5_charAt_5068e_36 : decode cJ5_charAt_5068e 36 = .ok (.sipush 255, 3) := by decide +kernel
theorem dJ5_charAt_5068e_39 : decode cJ5_charAt_5068e 39 = .ok (.iand, 1) := by decide +kernel
theorem dJ5_charAt_5068e_40 : decode cJ5_charAt_5068e 40 = .ok (.i2c, 1) := by decide +kernel
theorem dJ5_charAt_5068e_41 : decode cJ5_charAt_5068e 41 = .ok (.ireturn, 1) := by decide +kernel
theorem dJ5_charAt_5068e_42 : decode cJ5_charAt_5068e 42 = .ok (.aload_n 3, 1) := by decide +kernel
theorem dJ5_charAt_5068e_43 : decode cJ5_charAt_5068e 43 = .ok (.iload_n 1, 1) := by decide +kernel
theorem dJ5_charAt_5068e_44 : decode cJ5_charAt_5068e 44 = .ok (.invokestatic 148, 3) := by decide +kernel
theorem dJ5_charAt_5068e_47 : decode cJ5_charAt_5068e 47 = .ok (.ireturn, 1) := by decide +kernel
theorem dJ5_append_cf1ce_0 : decode cJ5_append_cf1ce 0 = .ok (.aload_n 1, 1) := by decide +kernel
theorem dJ5_append_cf1ce_1 : decode cJ5_append_cf1ce 1 = .ok (.ifnonnull 8, 3) := by decide +kernel
theorem dJ5_append_cf1ce_4 : decode cJ5_append_cf1ce 4 = .ok (.aload_n 0, 1) := by decide +kernel
theorem dJ5_append_cf1ce_5 : decode cJ5_append_cf1ce 5 = .ok (.invokevirtual 204, 3) := by decide +kernel
theorem dJ5_append_cf1ce_8 : decode cJ5_append_cf1ce 8 = .ok (.areturn, 1) := by decide +kernel
theorem dJ5_append_cf1ce_9 : decode cJ5_append_cf1ce 9 = .ok (.aload_n 1, 1) := by decide +kernel
theorem dJ5_append_cf1ce_10 : decode cJ5_append_cf1ce 10 = .ok (.invokevirtual 32, 3) := by decide +kernel
theorem dJ5_append_cf1ce_13 : decode cJ5_append_cf1ce 13 = .ok (.istore_n 2, 1) := by decide +kernel
theorem dJ5_append_cf1ce_14 : decode cJ5_append_cf1ce 14 = .ok (.aload_n 0, 1) := by decide +kernel
theorem dJ5_append_cf1ce_15 : decode cJ5_append_cf1ce 15 = .ok (.aload_n 0, 1) := by decide +kernel
theorem dJ5_append_cf1ce_16 : decode cJ5_append_cf1ce 16 = .ok (.getfield 79, 3) := by decide +kernel
theorem dJ5_append_cf1ce_19 : decode cJ5_append_cf1ce 19 = .ok (.iload_n 2, 1) := by decide +kernel
theorem dJ5_append_cf1ce_20 : decode cJ5_append_cf1ce 20 = .ok (.iadd, 1) := by decide +kernel
theorem dJ5_append_cf1ce_21 : decode cJ5_append_cf1ce 21 = .ok (.invokevirtual 100, 3) := by decide +kernel
theorem dJ5_append_cf1ce_24 : decode cJ5_append_cf1ce 24 = .ok (.aload_n 0, 1) := by decide +kernel
theorem dJ5_append_cf1ce_25 : decode cJ5_append_cf1ce 25 = .ok (.aload_n 0, 1) := by decide +kernel
theorem dJ5_append_cf1ce_26 : decode cJ5_append_cf1ce 26 = .ok (.getfield 79, 3) := by decide +kernel
theorem dJ5_append_cf1ce_29 : decode cJ5_append_cf1ce 29 = .ok (.aload_n 1, 1) := by decide +kernel
theorem dJ5_append_cf1ce_30 : decode cJ5_append_cf1ce 30 = .ok (.invokevirtual 208, 3) := by decide +kernel
theorem dJ5_append_cf1ce_33 : decode cJ5_append_cf1ce 33 = .ok (.aload_n 0, 1) := by decide +kernel
theorem dJ5_append_cf1ce_34 : decode cJ5_append_cf1ce 34 = .ok (.dup, 1) := by decide +kernel
theorem dJ5_append_cf1ce_35 : decode cJ5_append_cf1ce 35 = .ok (.getfield 79, 3) := by decide +kernel
theorem dJ5_append_cf1ce_38 : decode cJ5_append_cf1ce 38 = .ok (.iload_n 2, 1) := by decide +kernel
theorem dJ5_append_cf1ce_39 : decode cJ5_append_cf1ce 39 = .ok (.iadd, 1) := by decide +kernel
theorem dJ5_append_cf1ce_40 : decode cJ5_append_cf1ce 40 = .ok (.putfield 79, 3) := by decide +kernel
theorem dJ5_append_cf1ce_43 : decode cJ5_append_cf1ce 43 = .ok (.aload_n 0, 1) := by decide +kernel
theorem dJ5_append_cf1ce_44 : decode cJ5_append_cf1ce 44 = .ok (.areturn, 1) := by decide +kernel
theorem dJ5_appendNull_278bc_0 : decode cJ5_appendNull_278bc 0 = .ok (.aload_n 0, 1) := by decide +kernel
theorem dJ5_appendNull_278bc_1 : decode cJ5_appendNull_278bc 1 = .ok (.aload_n 0, 1) := by decide +kernel
theorem dJ5_appendNull_278bc_2 : decode cJ5_appendNull_278bc 2 = .ok (.getfield 79, 3) := by decide +kernel
theorem dJ5_appendNull_278bc_5 : decode cJ5_appendNull_278bc 5 = .ok (.iconst 4, 1) := by decide +kernel
theorem dJ5_appendNull_278bc_6 : decode cJ5_appendNull_278bc 6 = .ok (.iadd, 1) := by decide +kernel
theorem dJ5_appendNull_278bc_7 : decode cJ5_appendNull_278bc 7 = .ok (.invokevirtual 100, 3) := by decide +kernel
theorem dJ5_appendNull_278bc_10 : decode cJ5_appendNull_278bc 10 = .ok (.aload_n 0, 1) := by decide +kernel
theorem dJ5_appendNull_278bc_11 : decode cJ5_appendNull_278bc 11 = .ok (.getfield 79, 3) := by decide +kernel
theorem dJ5_appendNull_278bc_14 : decode cJ5_appendNull_278bc 14 = .ok (.istore_n 1, 1) := by decide +kernel
theorem dJ5_appendNull_278bc_15 : decode cJ5_appendNull_278bc 15 = .ok (.aload_n 0, 1) := by decide +kernel
theorem dJ5_appendNull_278bc_16 : decode cJ5_appendNull_278bc 16 = .ok (.getfield 15, 3) := by decide +kernel
theorem dJ5_appendNull_278bc_19 : decode cJ5_appendNull_278bc 19 = .ok (.astore_n 2, 1) := by decide +kernel
theorem dJ5_appendNull_278bc_20 : decode cJ5_appendNull_278bc 20 = .ok (.aload_n 0, 1) := by decide +kernel
theorem dJ5_appendNull_278bc_21 : decode cJ5_appendNull_278bc 21 = .ok (.invokevirtual 83, 3) := by decide +kernel
theorem dJ5_appendNull_278bc_24 : decode cJ5_appendNull_278bc 24 = .ok (.ifCond .eq 38, 3) := by decide +kernel
theorem dJ5_appendNull_278bc_27 : decode cJ5_appendNull_278bc 27 = .ok (.aload_n 2, 1) := by decide +kernel
theorem dJ5_appendNull_278bc_28 : decode cJ5_appendNull_278bc 28 = .ok (.iload_n 1, 1) := by decide +kernel
theorem dJ5_appendNull_278bc_29 : decode cJ5_appendNull_278bc 29 = .ok (.iinc 1 1, 3) := by decide +kernel
theorem dJ5_appendNull_278bc_32 : decode cJ5_appendNull_278bc 32 = .ok (.bipush 110, 2) := by decide +kernel
theorem dJ5_appendNull_278bc_34 : decode cJ5_appendNull_278bc 34 = .ok (.bastore, 1) := by decide +kernel
theorem dJ5_appendNull_278bc_35 : decode cJ5_appendNull_278bc 35 = .ok (.aload_n 2, 1) := by decide +kernel
theorem dJ5_appendNull_278bc_36 : decode cJ5_appendNull_278bc 36 = .ok (.iload_n 1, 1) := by decide +kernel
theorem dJ5_appendNull_278bc_37 : decode cJ5_appendNull_278bc 37 = .ok (.iinc 1 1, 3) := by decide +kernel
theorem dJ5_appendNull_278bc_40 : decode cJ5_appendNull_278bc 40 = .ok (.bipush 117, 2) := by decide +kernel
theorem dJ5_appendNull_278bc_42 : decode cJ5_appendNull_278bc 42 = .ok (.bastore, 1) := by decide +kernel
theorem dJ5_appendNull_278bc_43 : decode cJ5_appendNull_278bc 43 = .ok (.aload_n 2, 1) := by decide +kernel
theorem dJ5_appendNull_278bc_44 : decode cJ5_appendNull_278bc 44 = .ok (.iload_n 1, 1) := by decide +kernel
theorem dJ5_appendNull_278bc_45 : decode cJ5_appendNull_278bc 45 = .ok (.iinc 1 1, 3) := by decide +kernel
theorem dJ5_appendNull_278bc_48 : decode cJ5_appendNull_278bc 48 = .ok (.bipush 108, 2) := by decide +kernel
theorem dJ5_appendNull_278bc_50 : decode cJ5_appendNull_278bc 50 = .ok (.bastore, 1) := by decide +kernel
theorem dJ5_appendNull_278bc_51 : decode cJ5_appendNull_278bc 51 = .ok (.aload_n 2, 1) := by decide +kernel
theorem dJ5_appendNull_278bc_52 : decode cJ5_appendNull_278bc 52 = .ok (.iload_n 1, 1) := by decide +kernel
theorem dJ5_appendNull_278bc_53 : decode cJ5_appendNull_278bc 53 = .ok (.iinc 1 1, 3) := by decide +kernel
theorem dJ5_appendNull_278bc_56 : decode cJ5_appendNull_278bc 56 = .ok (.bipush 108, 2) := by decide +kernel
theorem dJ5_appendNull_278bc_58 : decode cJ5_appendNull_278bc 58 = .ok (.bastore, 1) := by decide +kernel
theorem dJ5_appendNull_278bc_59 : decode cJ5_appendNull_278bc 59 = .ok (.goto 17, 3) := by decide +kernel
theorem dJ5_appendNull_278bc_62 : decode cJ5_appendNull_278bc 62 = .ok (.aload_n 2, 1) := by decide +kernel
theorem dJ5_appendNull_278bc_63 : decode cJ5_appendNull_278bc 63 = .ok (.iload_n 1, 1) := by decide +kernel
theorem dJ5_appendNull_278bc_64 : decode cJ5_appendNull_278bc 64 = .ok (.bipush 110, 2) := by decide +kernel
theorem dJ5_appendNull_278bc_66 : decode cJ5_appendNull_278bc 66 = .ok (.bipush 117, 2) := by decide +kernel
theorem dJ5_appendNull_278bc_68 : decode cJ5_appendNull_278bc 68 = .ok (.bipush 108, 2) := by decide +kernel
theorem dJ5_appendNull_278bc_70 : decode cJ5_appendNull_278bc 70 = .ok (.bipush 108, 2) := by decide +kernel
theorem dJ5_appendNull_278bc_72 : decode cJ5_appendNull_278bc 72 = .ok (.invokestatic 226, 3) := by decide +kernel
theorem dJ5_appendNull_278bc_75 : decode cJ5_appendNull_278bc 75 = .ok (.istore_n 1, 1) := by decide +kernel
theorem dJ5_appendNull_278bc_76 : decode cJ5_appendNull_278bc 76 = .ok (.aload_n 0, 1) := by decide +kernel
theorem dJ5_appendNull_278bc_77 : decode cJ5_appendNull_278bc 77 = .ok (.iload_n 1, 1) := by decide +kernel
theorem dJ5_appendNull_278bc_78 : decode cJ5_appendNull_278bc 78 = .ok (.putfield 79, 3) := by decide +kernel
theorem dJ5_appendNull_278bc_81 : decode cJ5_appendNull_278bc 81 = .ok (.aload_n 0, 1) := by decide +kernel
theorem dJ5_appendNull_278bc_82 : decode cJ5_appendNull_278bc 82 = .ok (.areturn, 1) := by decide +kernel
theorem dJ5_append_3fe6f_0 : decode cJ5_append_3fe6f 0 = .ok (.aload_n 0, 1) := by decide +kernel
theorem dJ5_append_3fe6f_1 : decode cJ5_append_3fe6f 1 = .ok (.aload_n 0, 1) := by decide +kernel
theorem dJ5_append_3fe6f_2 : decode cJ5_append_3fe6f 2 = .ok (.getfield 79, 3) := by decide +kernel
theorem dJ5_append_3fe6f_5 : decode cJ5_append_3fe6f 5 = .ok (.iconst 1, 1) := by decide +kernel
theorem dJ5_append_3fe6f_6 : decode cJ5_append_3fe6f 6 = .ok (.iadd, 1) := by decide +kernel
theorem dJ5_append_3fe6f_7 : decode cJ5_append_3fe6f 7 = .ok (.invokevirtual 100, 3) := by decide +kernel
theorem dJ5_append_3fe6f_10 : decode cJ5_append_3fe6f 10 = .ok (.aload_n 0, 1) := by decide +kernel
theorem dJ5_append_3fe6f_11 : decode cJ5_append_3fe6f 11 = .ok (.invokevirtual 83, 3) := by decide +kernel
theorem dJ5_append_3fe6f_14 : decode cJ5_append_3fe6f 14 = .ok (.ifCond .eq 31, 3) := by decide +kernel
theorem dJ5_append_3fe6f_17 : decode cJ5_append_3fe6f 17 = .ok (.iload_n 1, 1) := by decide +kernel
theorem dJ5_append_3fe6f_18 : decode cJ5_append_3fe6f 18 = .ok (.invokestatic 191, 3) := by decide +kernel
theorem dJ5_append_3fe6f_21 : decode cJ5_append_3fe6f 21 = .ok (.ifCond .eq 24, 3) := by decide +kernel
theorem dJ5_append_3fe6f_24 : decode cJ5_append_3fe6f 24 = .ok (.aload_n 0, 1) := by decide +kernel
theorem dJ5_append_3fe6f_25 : decode cJ5_append_3fe6f 25 = .ok (.getfield 15, 3) := by decide +kernel
theorem dJ5_append_3fe6f_28 : decode cJ5_append_3fe6f 28 = .ok (.aload_n 0, 1) := by decide +kernel
theorem dJ5_append_3fe6f_29 : decode cJ5_append_3fe6f 29 = .ok (.dup, 1) := by decide +kernel
theorem dJ5_append_3fe6f_30 : decode cJ5_append_3fe6f 30 = .ok (.getfield 79, 3) := by decide +kernel
theorem dJ5_append_3fe6f_33 : decode cJ5_append_3fe6f 33 = .ok (.dup_x1, 1) := by decide +kernel
theorem dJ5_append_3fe6f_34 : decode cJ5_append_3fe6f 34 = .ok (.iconst 1, 1) := by decide +kernel
theorem dJ5_append_3fe6f_35 : decode cJ5_append_3fe6f 35 = .ok (.iadd, 1) := by decide +kernel
theorem dJ5_append_3fe6f_36 : decode cJ5_append_3fe6f 36 = .ok (.putfield 79, 3) := by decide +kernel
theorem dJ5_append_3fe6f_39 : decode cJ5_append_3fe6f 39 = .ok (.iload_n 1, 1) := by decide +kernel
theorem dJ5_append_3fe6f_40 : decode cJ5_append_3fe6f 40 = .ok (.i2b, 1) := by decide +kernel
theorem dJ5_append_3fe6f_41 : decode cJ5_append_3fe6f 41 = .ok (.bastore, 1) := by decide +kernel
theorem dJ5_append_3fe6f_42 : decode cJ5_append_3fe6f 42 = .ok (.goto 33, 3) := by decide +kernel
theorem dJ5_append_3fe6f_45 : decode cJ5_append_3fe6f 45 = .ok (.aload_n 0, 1) := by decide +kernel
theorem dJ5_append_3fe6f_46 : decode cJ5_append_3fe6f 46 = .ok (.invokevirtual 83, 3) := by decide +kernel
theorem dJ5_append_3fe6f_49 : decode cJ5_append_3fe6f 49 = .ok (.ifCond .eq 7, 3) := by decide +kernel
theorem dJ5_append_3fe6f_52 : decode cJ5_append_3fe6f 52 = .ok (.aload_n 0, 1) := by decide +kernel
theorem dJ5_append_3fe6f_53 : decode cJ5_append_3fe6f 53 = .ok (.invokevirtual 195, 3) := by decide +kernel
theorem dJ5_append_3fe6f_56 : decode cJ5_append_3fe6f 56 = .ok (.aload_n 0, 1) := by decide +kernel
theorem dJ5_append_3fe6f_57 : decode cJ5_append_3fe6f 57 = .ok (.getfield 15, 3) := by decide +kernel
theorem dJ5_append_3fe6f_60 : decode cJ5_append_3fe6f 60 = .ok (.aload_n 0, 1) := by decide +kernel
theorem dJ5_append_3fe6f_61 : decode cJ5_append_3fe6f 61 = .ok (.dup, 1) := by decide +kernel
theorem dJ5_append_3fe6f_62 : decode cJ5_append_3fe6f 62 = .ok (.getfield 79, 3) := by decide +kernel
theorem dJ5_append_3fe6f_65 : decode cJ5_append_3fe6f 65 = .ok (.dup_x1, 1) := by decide +kernel
theorem dJ5_append_3fe6f_66 : decode cJ5_append_3fe6f 66 = .ok (.iconst 1, 1) := by decide +kernel
theorem dJ5_append_3fe6f_67 : decode cJ5_append_3fe6f 67 = .ok (.iadd, 1) := by decide +kernel
theorem dJ5_append_3fe6f_68 : decode cJ5_append_3fe6f 68 = .ok (.putfield 79, 3) := by decide +kernel
theorem dJ5_append_3fe6f_71 : decode cJ5_append_3fe6f 71 = .ok (.iload_n 1, 1) := by decide +kernel
theorem dJ5_append_3fe6f_72 : decode cJ5_append_3fe6f 72 = .ok (.invokestatic 197, 3) := by decide +kernel
theorem dJ5_append_3fe6f_75 : decode cJ5_append_3fe6f 75 = .ok (.aload_n 0, 1) := by decide +kernel
theorem dJ5_append_3fe6f_76 : decode cJ5_append_3fe6f 76 = .ok (.areturn, 1) := by decide +kernel
theorem dJ5_append_c97b9_0 : decode cJ5_append_c97b9 0 = .ok (.aload_n 0, 1) := by decide +kernel
theorem dJ5_append_c97b9_1 : decode cJ5_append_c97b9 1 = .ok (.getfield 79, 3) := by decide +kernel
theorem dJ5_append_c97b9_4 : decode cJ5_append_c97b9 4 = .ok (.istore_n 2, 1) := by decide +kernel
theorem dJ5_append_c97b9_5 : decode cJ5_append_c97b9 5 = .ok (.iload_n 2, 1) := by decide +kernel
theorem dJ5_append_c97b9_6 : decode cJ5_append_c97b9 6 = .ok (.iload_n 1, 1) := by decide +kernel
theorem dJ5_append_c97b9_7 : decode cJ5_append_c97b9 7 = .ok (.invokestatic 245, 3) := by decide +kernel
theorem dJ5_append_c97b9_10 : decode cJ5_append_c97b9 10 = .ok (.iadd, 1) := by decide +kernel
theorem dJ5_append_c97b9_11 : decode cJ5_append_c97b9 11 = .ok (.istore_n 3, 1) := by decide +kernel
theorem dJ5_append_c97b9_12 : decode cJ5_append_c97b9 12 = .ok (.aload_n 0, 1) := by decide +kernel
theorem dJ5_append_c97b9_13 : decode cJ5_append_c97b9 13 = .ok (.iload_n 3, 1) := by decide +kernel
theorem dJ5_append_c97b9_14 : decode cJ5_append_c97b9 14 = .ok (.invokevirtual 100, 3) := by decide +kernel
theorem dJ5_append_c97b9_17 : decode cJ5_append_c97b9 17 = .ok (.aload_n 0, 1) := by decide +kernel
theorem dJ5_append_c97b9_18 : decode cJ5_append_c97b9 18 = .ok (.invokevirtual 83, 3) := by decide +kernel
theorem dJ5_append_c97b9_21 : decode cJ5_append_c97b9 21 = .ok (.ifCond .eq 16, 3) := by decide +kernel
theorem dJ5_append_c97b9_24 : decode cJ5_append_c97b9 24 = .ok (.iload_n 1, 1) := by decide +kernel
theorem dJ5_append_c97b9_25 : decode cJ5_append_c97b9 25 = .ok (.iload_n 3, 1) := by decide +kernel
theorem dJ5_append_c97b9_26 : decode cJ5_append_c97b9 26 = .ok (.aload_n 0, 1) := by decide +kernel
theorem dJ5_append_c97b9_27 : decode cJ5_append_c97b9 27 = .ok (.getfield 15, 3) := by decide +kernel
theorem dJ5_append_c97b9_30 : decode cJ5_append_c97b9 30 = .ok (.invokestatic 248, 3) := by decide +kernel
theorem dJ5_append_c97b9_33 : decode cJ5_append_c97b9 33 = .ok (.pop, 1) := by decide +kernel
theorem dJ5_append_c97b9_34 : decode cJ5_append_c97b9 34 = .ok (.goto 14, 3) := by decide +kernel
theorem dJ5_append_c97b9_37 : decode cJ5_append_c97b9 37 = .ok (.iload_n 1, 1) := by decide +kernel
theorem dJ5_append_c97b9_38 : decode cJ5_append_c97b9 38 = .ok (.iload_n 2, 1) := by decide +kernel
theorem dJ5_append_c97b9_39 : decode cJ5_append_c97b9 39 = .ok (.iload_n 3, 1) := by decide +kernel
theorem dJ5_append_c97b9_40 : decode cJ5_append_c97b9 40 = .ok (.aload_n 0, 1) := by decide +kernel
theorem dJ5_append_c97b9_41 : decode cJ5_append_c97b9 41 = .ok (.getfield 15, 3) := by decide +kernel
theorem dJ5_append_c97b9_44 : decode cJ5_append_c97b9 44 = .ok (.invokestatic 251, 3) := by decide +kernel
theorem dJ5_append_c97b9_47 : decode cJ5_append_c97b9 47 = .ok (.pop, 1) := by decide +kernel
theorem dJ5_append_c97b9_48 : decode cJ5_append_c97b9 48 = .ok (.aload_n 0, 1) := by decide +kernel
theorem dJ5_append_c97b9_49 : decode cJ5_append_c97b9 49 = .ok (.iload_n 3, 1) := by decide +kernel
theorem dJ5_append_c97b9_50 : decode cJ5_append_c97b9 50 = .ok (.putfield 79, 3) := by decide +kernel
theorem dJ5_append_c97b9_53 : decode cJ5_append_c97b9 53 = .ok (.aload_n 0, 1) := by decide +kernel
theorem dJ5_append_c97b9_54 : decode cJ5_append_c97b9 54 = .ok (.areturn, 1) := by decide +kernel
theorem dJ5_getValue_6d5f1_0 : decode cJ5_getValue_6d5f1 0 = .ok (.aload_n 0, 1) := by decide +kernel
theorem dJ5_getValue_6d5f1_1 : decode cJ5_getValue_6d5f1 1 = .ok (.getfield 15, 3) := by decide +kernel
theorem dJ5_getValue_6d5f1_4 : decode cJ5_getValue_6d5f1 4 = .ok (.areturn, 1) := by decide +kernel
theorem dJ5_isLatin1_aae02_0 : decode cJ5_isLatin1_aae02 0 = .ok (.getstatic 18, 3) := by decide +kernel
theorem dJ5_isLatin1_aae02_3 : decode cJ5_isLatin1_aae02 3 = .ok (.ifCond .eq 14, 3) := by decide +kernel
theorem dJ5_isLatin1_aae02_6 : decode cJ5_isLatin1_aae02 6 = .ok (.aload_n 0, 1) := by decide +kernel
theorem dJ5_isLatin1_aae02_7 : decode cJ5_isLatin1_aae02 7 = .ok (.getfield 22, 3) := by decide +kernel
theorem dJ5_isLatin1_aae02_10 : decode cJ5_isLatin1_aae02 10 = .ok (.ifCond .ne 7, 3) := by decide +kernel
theorem dJ5_isLatin1_aae02_13 : decode cJ5_isLatin1_aae02 13 = .ok (.iconst 1, 1) := by decide +kernel
theorem dJ5_isLatin1_aae02_14 : decode cJ5_isLatin1_aae02 14 = .ok (.goto 4, 3) := by decide +kernel
theorem dJ5_isLatin1_aae02_17 : decode cJ5_isLatin1_aae02 17 = .ok (.iconst 0, 1) := by decide +kernel
theorem dJ5_isLatin1_aae02_18 : decode cJ5_isLatin1_aae02 18 = .ok (.ireturn, 1) := by decide +kernel
theorem dJ5_inflateIfNeededFor_a7421_0 : decode cJ5_inflateIfNeededFor_a7421 0 = .ok (.getstatic 18, 3) := by decide +kernel
theorem dJ5_inflateIfNeededFor_a7421_3 : decode cJ5_inflateIfNeededFor_a7421 3 = .ok (.ifCond .eq 18, 3) := by decide +kernel
theorem dJ5_inflateIfNeededFor_a7421_6 : decode cJ5_inflateIfNeededFor_a7421 6 = .ok (.aload_n 0, 1) := by decide +kernel
theorem dJ5_inflateIfNeededFor_a7421_7 : decode cJ5_inflateIfNeededFor_a7421 7 = .ok (.getfield 22, 3) := by decide +kernel
theorem dJ5_inflateIfNeededFor_a7421_10 : decode cJ5_inflateIfNeededFor_a7421 10 = .ok (.aload_n 1, 1) := by decide +kernel
theorem dJ5_inflateIfNeededFor_a7421_11 : decode cJ5_inflateIfNeededFor_a7421 11 = .ok (.invokevirtual 40, 3) := by decide +kernel
theorem dJ5_inflateIfNeededFor_a7421_14 : decode cJ5_inflateIfNeededFor_a7421 14 = .ok (.if_icmp .eq 7, 3) := by decide +kernel
theorem dJ5_inflateIfNeededFor_a7421_17 : decode cJ5_inflateIfNeededFor_a7421 17 = .ok (.aload_n 0, 1) := by decide +kernel
theorem dJ5_inflateIfNeededFor_a7421_18 : decode cJ5_inflateIfNeededFor_a7421 18 = .ok (.invokevirtual 195, 3) := by decide +kernel
