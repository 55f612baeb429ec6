theorem dX0_init_0 : decode cX0_init 0 = .ok (.aload_n 0, 1) := by decide +kernel
theorem dX0_init_1 : decode cX0_init 1 = .ok (.invokespecial 3, 3) := by decide +kernel
theorem dX0_init_4 : decode cX0_init 4 = .ok (.return_, 1) := by decide +kernel
theorem dX0_copyFrom_0 : decode cX0_copyFrom 0 = .ok (.aload_n 0, 1) := by decide +kernel
theorem dX0_copyFrom_1 : decode cX0_copyFrom 1 = .ok (.aload_n 1, 1) := by decide +kernel
theorem dX0_copyFrom_2 : decode cX0_copyFrom 2 = .ok (.getfield 9, 3) := by decide +kernel
theorem dX0_copyFrom_5 : decode cX0_copyFrom 5 = .ok (.putfield 9, 3) := by decide +kernel
theorem dX0_copyFrom_8 : decode cX0_copyFrom 8 = .ok (.aload_n 0, 1) := by decide +kernel
theorem dX0_copyFrom_9 : decode cX0_copyFrom 9 = .ok (.aload_n 1, 1) := by decide +kernel
theorem dX0_copyFrom_10 : decode cX0_copyFrom 10 = .ok (.getfield 15, 3) := by decide +kernel
theorem dX0_copyFrom_13 : decode cX0_copyFrom 13 = .ok (.putfield 15, 3) := by decide +kernel
theorem dX0_copyFrom_16 : decode cX0_copyFrom 16 = .ok (.aload_n 0, 1) := by decide +kernel
theorem dX0_copyFrom_17 : decode cX0_copyFrom 17 = .ok (.aload_n 1, 1) := by decide +kernel
theorem dX0_copyFrom_18 : decode cX0_copyFrom 18 = .ok (.getfield 18, 3) := by decide +kernel
theorem dX0_copyFrom_21 : decode cX0_copyFrom 21 = .ok (.putfield 18, 3) := by decide +kernel
theorem dX0_copyFrom_24 : decode cX0_copyFrom 24 = .ok (.aload_n 0, 1) := by decide +kernel
theorem dX0_copyFrom_25 : decode cX0_copyFrom 25 = .ok (.aload_n 1, 1) := by decide +kernel
theorem dX0_copyFrom_26 : decode cX0_copyFrom 26 = .ok (.getfield 21, 3) := by decide +kernel
theorem dX0_copyFrom_29 : decode cX0_copyFrom 29 = .ok (.putfield 21, 3) := by decide +kernel
theorem dX0_copyFrom_32 : decode cX0_copyFrom 32 = .ok (.aload_n 0, 1) := by decide +kernel
theorem dX0_copyFrom_33 : decode cX0_copyFrom 33 = .ok (.aload_n 1, 1) := by decide +kernel
theorem dX0_copyFrom_34 : decode cX0_copyFrom 34 = .ok (.getfield 24, 3) := by decide +kernel
theorem dX0_copyFrom_37 : decode cX0_copyFrom 37 = .ok (.putfield 24, 3) := by decide +kernel
theorem dX0_copyFrom_40 : decode cX0_copyFrom 40 = .ok (.return_, 1) := by decide +kernel
theorem dX0_canTake_0 : decode cX0_canTake 0 = .ok (.aload_n 0, 1) := by decide +kernel
theorem dX0_canTake_1 : decode cX0_canTake 1 = .ok (.getfield 18, 3) := by decide +kernel
theorem dX0_canTake_4 : decode cX0_canTake 4 = .ok (.iload_n 1, 1) := by decide +kernel
theorem dX0_canTake_5 : decode cX0_canTake 5 = .ok (.iadd, 1) := by decide +kernel
theorem dX0_canTake_6 : decode cX0_canTake 6 = .ok (.bipush 20, 2) := by decide +kernel
theorem dX0_canTake_8 : decode cX0_canTake 8 = .ok (.if_icmp .gt 7, 3) := by decide +kernel
theorem dX0_canTake_11 : decode cX0_canTake 11 = .ok (.iconst 1, 1) := by decide +kernel
theorem dX0_canTake_12 : decode cX0_canTake 12 = .ok (.goto 4, 3) := by decide +kernel
theorem dX0_canTake_15 : decode cX0_canTake 15 = .ok (.iconst 0, 1) := by decide +kernel
theorem dX0_canTake_16 : decode cX0_canTake 16 = .ok (.ireturn, 1) := by decide +kernel
theorem dX0_passesUpTo_0 : decode cX0_passesUpTo 0 = .ok (.iload_n 1, 1) := by decide +kernel
theorem dX0_passesUpTo_1 : decode cX0_passesUpTo 1 = .ok (.aload_n 0, 1) := by decide +kernel
theorem dX0_passesUpTo_2 : decode cX0_passesUpTo 2 = .ok (.getfield 21, 3) := by decide +kernel
theorem dX0_passesUpTo_5 : decode cX0_passesUpTo 5 = .ok (.if_icmp .lt 11, 3) := by decide +kernel
theorem dX0_passesUpTo_8 : decode cX0_passesUpTo 8 = .ok (.aload_n 0, 1) := by decide +kernel
theorem dX0_passesUpTo_9 : decode cX0_passesUpTo 9 = .ok (.getfield 15, 3) := by decide +kernel
theorem dX0_passesUpTo_12 : decode cX0_passesUpTo 12 = .ok (.iconst 1, 1) := by decide +kernel
theorem dX0_passesUpTo_13 : decode cX0_passesUpTo 13 = .ok (.if_icmp .ge 5, 3) := by decide +kernel
theorem dX0_passesUpTo_16 : decode cX0_passesUpTo 16 = .ok (.iconst 0, 1) := by decide +kernel
theorem dX0_passesUpTo_17 : decode cX0_passesUpTo 17 = .ok (.ireturn, 1) := by decide +kernel
theorem dX0_passesUpTo_18 : decode cX0_passesUpTo 18 = .ok (.aload_n 0, 1) := by decide +kernel
theorem dX0_passesUpTo_19 : decode cX0_passesUpTo 19 = .ok (.getfield 18, 3) := by decide +kernel
theorem dX0_passesUpTo_22 : decode cX0_passesUpTo 22 = .ok (.iconst 1, 1) := by decide +kernel
theorem dX0_passesUpTo_23 : decode cX0_passesUpTo 23 = .ok (.iload_n 1, 1) := by decide +kernel
theorem dX0_passesUpTo_24 : decode cX0_passesUpTo 24 = .ok (.aload_n 0, 1) := by decide +kernel
theorem dX0_passesUpTo_25 : decode cX0_passesUpTo 25 = .ok (.getfield 21, 3) := by decide +kernel
theorem dX0_passesUpTo_28 : decode cX0_passesUpTo 28 = .ok (.isub, 1) := by decide +kernel
theorem dX0_passesUpTo_29 : decode cX0_passesUpTo 29 = .ok (.aload_n 0, 1) := by decide +kernel
theorem dX0_passesUpTo_30 : decode cX0_passesUpTo 30 = .ok (.getfield 15, 3) := by decide +kernel
theorem dX0_passesUpTo_33 : decode cX0_passesUpTo 33 = .ok (.idiv, 1) := by decide +kernel
theorem dX0_passesUpTo_34 : decode cX0_passesUpTo 34 = .ok (.iadd, 1) := by decide +kernel
theorem dX0_passesUpTo_35 : decode cX0_passesUpTo 35 = .ok (.invokestatic 27, 3) := by decide +kernel
theorem dX0_passesUpTo_38 : decode cX0_passesUpTo 38 = .ok (.ireturn, 1) := by decide +kernel
theorem dX0_ranksBefore_0 : decode cX0_ranksBefore 0 = .ok (.aload_n 0, 1) := by decide +kernel
theorem dX0_ranksBefore_1 : decode cX0_ranksBefore 1 = .ok (.getfield 18, 3) := by decide +kernel
theorem dX0_ranksBefore_4 : decode cX0_ranksBefore 4 = .ok (.aload_n 1, 1) := by decide +kernel
theorem dX0_ranksBefore_5 : decode cX0_ranksBefore 5 = .ok (.getfield 18, 3) := by decide +kernel
theorem dX0_ranksBefore_8 : decode cX0_ranksBefore 8 = .ok (.if_icmp .eq 20, 3) := by decide +kernel
theorem dX0_ranksBefore_11 : decode cX0_ranksBefore 11 = .ok (.aload_n 0, 1) := by decide +kernel
theorem dX0_ranksBefore_12 : decode cX0_ranksBefore 12 = .ok (.getfield 18, 3) := by decide +kernel
theorem dX0_ranksBefore_15 : decode cX0_ranksBefore 15 = .ok (.aload_n 1, 1) := by decide +kernel
theorem dX0_ranksBefore_16 : decode cX0_ranksBefore 16 = .ok (.getfield 18, 3) := by decide +kernel
theorem dX0_ranksBefore_19 : decode cX0_ranksBefore 19 = .ok (.if_icmp .le 7, 3) := by decide +kernel
theorem dX0_ranksBefore_22 : decode cX0_ranksBefore 22 = .ok (.iconst 1, 1) := by decide +kernel
theorem dX0_ranksBefore_23 : decode cX0_ranksBefore 23 = .ok (.goto 4, 3) := by decide +kernel
theorem dX0_ranksBefore_26 : decode cX0_ranksBefore 26 = .ok (.iconst 0, 1) := by decide +kernel
theorem dX0_ranksBefore_27 : decode cX0_ranksBefore 27 = .ok (.ireturn, 1) := by decide +kernel
theorem dX0_ranksBefore_28 : decode cX0_ranksBefore 28 = .ok (.aload_n 0, 1) := by decide +kernel
theorem dX0_ranksBefore_29 : decode cX0_ranksBefore 29 = .ok (.getfield 21, 3) := by decide +kernel
theorem dX0_ranksBefore_32 : decode cX0_ranksBefore 32 = .ok (.aload_n 1, 1) := by decide +kernel
theorem dX0_ranksBefore_33 : decode cX0_ranksBefore 33 = .ok (.getfield 21, 3) := by decide +kernel
theorem dX0_ranksBefore_36 : decode cX0_ranksBefore 36 = .ok (.if_icmp .eq 20, 3) := by decide +kernel
theorem dX0_ranksBefore_39 : decode cX0_ranksBefore 39 = .ok (.aload_n 0, 1) := by decide +kernel
theorem dX0_ranksBefore_40 : decode cX0_ranksBefore 40 = .ok (.getfield 21, 3) := by decide +kernel
theorem dX0_ranksBefore_43 : decode cX0_ranksBefore 43 = .ok (.aload_n 1, 1) := by decide +kernel
theorem dX0_ranksBefore_44 : decode cX0_ranksBefore 44 = .ok (.getfield 21, 3) := by decide +kernel
theorem dX0_ranksBefore_47 : decode cX0_ranksBefore 47 = .ok (.if_icmp .ge 7, 3) := by decide +kernel
theorem dX0_ranksBefore_50 : decode cX0_ranksBefore 50 = .ok (.iconst 1, 1) := by decide +kernel
theorem dX0_ranksBefore_51 : decode cX0_ranksBefore 51 = .ok (.goto 4, 3) := by decide +kernel
theorem dX0_ranksBefore_54 : decode cX0_ranksBefore 54 = .ok (.iconst 0, 1) := by decide +kernel
theorem dX0_ranksBefore_55 : decode cX0_ranksBefore 55 = .ok (.ireturn, 1) := by decide +kernel
theorem dX0_ranksBefore_56 : decode cX0_ranksBefore 56 = .ok (.aload_n 0, 1) := by decide +kernel
theorem dX0_ranksBefore_57 : decode cX0_ranksBefore 57 = .ok (.getfield 9, 3) := by decide +kernel
theorem dX0_ranksBefore_60 : decode cX0_ranksBefore 60 = .ok (.aload_n 1, 1) := by decide +kernel
theorem dX0_ranksBefore_61 : decode cX0_ranksBefore 61 = .ok (.getfield 9, 3) := by decide +kernel
theorem dX0_ranksBefore_64 : decode cX0_ranksBefore 64 = .ok (.if_icmp .ge 7, 3) := by decide +kernel
theorem dX0_ranksBefore_67 : decode cX0_ranksBefore 67 = .ok (.iconst 1, 1) := by decide +kernel
theorem dX0_ranksBefore_68 : decode cX0_ranksBefore 68 = .ok (.goto 4, 3) := by decide +kernel
theorem dX0_ranksBefore_71 : decode cX0_ranksBefore 71 = .ok (.iconst 0, 1) := by decide +kernel
theorem dX0_ranksBefore_72 : decode cX0_ranksBefore 72 = .ok (.ireturn, 1) := by decide +kernel
theorem dX1_init_0 : decode cX1_init 0 = .ok (.aload_n 0, 1) := by decide +kernel
theorem dX1_init_1 : decode cX1_init 1 = .ok (.invokespecial 3, 3) := by decide +kernel
theorem dX1_init_4 : decode cX1_init 4 = .ok (.aload_n 0, 1) := by decide +kernel
theorem dX1_init_5 : decode cX1_init 5 = .ok (.bipush 8, 2) := by decide +kernel
theorem dX1_init_7 : decode cX1_init 7 = .ok (.anewarray 9, 3) := by decide +kernel
theorem dX1_init_10 : decode cX1_init 10 = .ok (.putfield 11, 3) := by decide +kernel
theorem dX1_init_13 : decode cX1_init 13 = .ok (.iconst 0, 1) := by decide +kernel
theorem dX1_init_14 : decode cX1_init 14 = .ok (.istore_n 1, 1) := by decide +kernel
theorem dX1_init_15 : decode cX1_init 15 = .ok (.iload_n 1, 1) := by decide +kernel
theorem dX1_init_16 : decode cX1_init 16 = .ok (.bipush 8, 2) := by decide +kernel
theorem dX1_init_18 : decode cX1_init 18 = .ok (.if_icmp .ge 22, 3) := by decide +kernel
theorem dX1_init_21 : decode cX1_init 21 = .ok (.aload_n 0, 1) := by decide +kernel
theorem dX1_init_22 : decode cX1_init 22 = .ok (.getfield 11, 3) := by decide +kernel
theorem dX1_init_25 : decode cX1_init 25 = .ok (.iload_n 1, 1) := by decide +kernel
theorem dX1_init_26 : decode cX1_init 26 = .ok (.new 9, 3) := by decide +kernel
theorem dX1_init_29 : decode cX1_init 29 = .ok (.dup, 1) := by decide +kernel
theorem dX1_init_30 : decode cX1_init 30 = .ok (.invokespecial 17, 3) := by decide +kernel
theorem dX1_init_33 : decode cX1_init 33 = .ok (.aastore, 1) := by decide +kernel
theorem dX1_init_34 : decode cX1_init 34 = .ok (.iinc 1 1, 3) := by decide +kernel
theorem dX1_init_37 : decode cX1_init 37 = .ok (.goto (-22), 3) := by decide +kernel
theorem dX1_init_40 : decode cX1_init 40 = .ok (.return_, 1) := by decide +kernel
theorem dX1_push_0 : decode cX1_push 0 = .ok (.aload_n 0, 1) := by decide +kernel
theorem dX1_push_1 : decode cX1_push 1 = .ok (.getfield 11, 3) := by decide +kernel
theorem dX1_push_4 : decode cX1_push 4 = .ok (.aload_n 0, 1) := by decide +kernel
theorem dX1_push_5 : decode cX1_push 5 = .ok (.getfield 18, 3) := by decide +kernel
theorem dX1_push_8 : decode cX1_push 8 = .ok (.aload_n 0, 1) := by decide +kernel
theorem dX1_push_9 : decode cX1_push 9 = .ok (.getfield 22, 3) := by decide +kernel
theorem dX1_push_12 : decode cX1_push 12 = .ok (.iadd, 1) := by decide +kernel
theorem dX1_push_13 : decode cX1_push 13 = .ok (.bipush 8, 2) := by decide +kernel
theorem dX1_push_15 : decode cX1_push 15 = .ok (.invokestatic 25, 3) := by decide +kernel
theorem dX1_push_18 : decode cX1_push 18 = .ok (.aaload, 1) := by decide +kernel
theorem dX1_push_19 : decode cX1_push 19 = .ok (.aload_n 1, 1) := by decide +kernel
theorem dX1_push_20 : decode cX1_push 20 = .ok (.invokevirtual 31, 3) := by decide +kernel
theorem dX1_push_23 : decode cX1_push 23 = .ok (.aload_n 0, 1) := by decide +kernel
theorem dX1_push_24 : decode cX1_push 24 = .ok (.getfield 22, 3) := by decide +kernel
theorem dX1_push_27 : decode cX1_push 27 = .ok (.bipush 8, 2) := by decide +kernel
theorem dX1_push_29 : decode cX1_push 29 = .ok (.if_icmp .ge 16, 3) := by decide +kernel
theorem dX1_push_32 : decode cX1_push 32 = .ok (.aload_n 0, 1) := by decide +kernel
theorem dX1_push_33 : decode cX1_push 33 = .ok (.dup, 1) := by decide +kernel
theorem dX1_push_34 : decode cX1_push 34 = .ok (.getfield 22, 3) := by decide +kernel
theorem dX1_push_37 : decode cX1_push 37 = .ok (.iconst 1, 1) := by decide +kernel
theorem dX1_push_38 : decode cX1_push 38 = .ok (.iadd, 1) := by decide +kernel
theorem dX1_push_39 : decode cX1_push 39 = .ok (.putfield 22, 3) := by decide +kernel
theorem dX1_push_42 : decode cX1_push 42 = .ok (.goto 18, 3) := by decide +kernel
theorem dX1_push_45 : decode cX1_push 45 = .ok (.aload_n 0, 1) := by decide +kernel
theorem dX1_push_46 : decode cX1_push 46 = .ok (.aload_n 0, 1) := by decide +kernel
theorem dX1_push_47 : decode cX1_push 47 = .ok (.getfield 18, 3) := by decide +kernel
theorem dX1_push_50 : decode cX1_push 50 = .ok (.iconst 1, 1) := by decide +kernel
theorem dX1_push_51 : decode cX1_push 51 = .ok (.iadd, 1) := by decide +kernel
theorem dX1_push_52 : decode cX1_push 52 = .ok (.bipush 8, 2) := by decide +kernel
theorem dX1_push_54 : decode cX1_push 54 = .ok (.invokestatic 25, 3) := by decide +kernel
theorem dX1_push_57 : decode cX1_push 57 = .ok (.putfield 18, 3) := by decide +kernel
theorem dX1_push_60 : decode cX1_push 60 = .ok (.return_, 1) := by decide +kernel
theorem dX2_byWalking_0 : decode cX2_byWalking 0 = .ok (.aload_n 0, 1) := by decide +kernel
theorem dX2_byWalking_1 : decode cX2_byWalking 1 = .ok (.getfield 9, 3) := by decide +kernel
theorem dX2_byWalking_4 : decode cX2_byWalking 4 = .ok (.istore_n 2, 1) := by decide +kernel
theorem dX2_byWalking_5 : decode cX2_byWalking 5 = .ok (.aload_n 1, 1) := by decide +kernel
theorem dX2_byWalking_6 : decode cX2_byWalking 6 = .ok (.getfield 9, 3) := by decide +kernel
theorem dX2_byWalking_9 : decode cX2_byWalking 9 = .ok (.istore_n 3, 1) := by decide +kernel
theorem dX2_byWalking_10 : decode cX2_byWalking 10 = .ok (.aload_n 0, 1) := by decide +kernel
theorem dX2_byWalking_11 : decode cX2_byWalking 11 = .ok (.getfield 15, 3) := by decide +kernel
theorem dX2_byWalking_14 : decode cX2_byWalking 14 = .ok (.aload_n 1, 1) := by decide +kernel
theorem dX2_byWalking_15 : decode cX2_byWalking 15 = .ok (.getfield 15, 3) := by decide +kernel
theorem dX2_byWalking_18 : decode cX2_byWalking 18 = .ok (.iadd, 1) := by decide +kernel
theorem dX2_byWalking_19 : decode cX2_byWalking 19 = .ok (.iload_n 2, 1) := by decide +kernel
theorem dX2_byWalking_20 : decode cX2_byWalking 20 = .ok (.iload_n 3, 1) := by decide +kernel
theorem dX2_byWalking_21 : decode cX2_byWalking 21 = .ok (.isub, 1) := by decide +kernel
theorem dX2_byWalking_22 : decode cX2_byWalking 22 = .ok (.invokestatic 18, 3) := by decide +kernel
theorem dX2_byWalking_25 : decode cX2_byWalking 25 = .ok (.iadd, 1) := by decide +kernel
theorem dX2_byWalking_26 : decode cX2_byWalking 26 = .ok (.istore 4, 2) := by decide +kernel
theorem dX2_byWalking_28 : decode cX2_byWalking 28 = .ok (.iconst 0, 1) := by decide +kernel
theorem dX2_byWalking_29 : decode cX2_byWalking 29 = .ok (.istore 5, 2) := by decide +kernel
theorem dX2_byWalking_31 : decode cX2_byWalking 31 = .ok (.iload 5, 2) := by decide +kernel
theorem dX2_byWalking_33 : decode cX2_byWalking 33 = .ok (.iload 4, 2) := by decide +kernel
theorem dX2_byWalking_35 : decode cX2_byWalking 35 = .ok (.if_icmp .ge 36, 3) := by decide +kernel
theorem dX2_byWalking_38 : decode cX2_byWalking 38 = .ok (.iload_n 2, 1) := by decide +kernel
theorem dX2_byWalking_39 : decode cX2_byWalking 39 = .ok (.iload_n 3, 1) := by decide +kernel
theorem dX2_byWalking_40 : decode cX2_byWalking 40 = .ok (.if_icmp .eq 31, 3) := by decide +kernel
theorem dX2_byWalking_43 : decode cX2_byWalking 43 = .ok (.iload_n 2, 1) := by decide +kernel
theorem dX2_byWalking_44 : decode cX2_byWalking 44 = .ok (.iload_n 3, 1) := by decide +kernel
theorem dX2_byWalking_45 : decode cX2_byWalking 45 = .ok (.if_icmp .ge 13, 3) := by decide +kernel
theorem dX2_byWalking_48 : decode cX2_byWalking 48 = .ok (.iload_n 2, 1) := by decide +kernel
theorem dX2_byWalking_49 : decode cX2_byWalking 49 = .ok (.aload_n 0, 1) := by decide +kernel
theorem dX2_byWalking_50 : decode cX2_byWalking 50 = .ok (.getfield 15, 3) := by decide +kernel
theorem dX2_byWalking_53 : decode cX2_byWalking 53 = .ok (.iadd, 1) := by decide +kernel
theorem dX2_byWalking_54 : decode cX2_byWalking 54 = .ok (.istore_n 2, 1) := by decide +kernel
theorem dX2_byWalking_55 : decode cX2_byWalking 55 = .ok (.goto 10, 3) := by decide +kernel
theorem dX2_byWalking_58 : decode cX2_byWalking 58 = .ok (.iload_n 3, 1) := by decide +kernel
theorem dX2_byWalking_59 : decode cX2_byWalking 59 = .ok (.aload_n 1, 1) := by decide +kernel
theorem dX2_byWalking_60 : decode cX2_byWalking 60 = .ok (.getfield 15, 3) := by decide +kernel
theorem dX2_byWalking_63 : decode cX2_byWalking 63 = .ok (.iadd, 1) := by decide +kernel
theorem dX2_byWalking_64 : decode cX2_byWalking 64 = .ok (.istore_n 3, 1) := by decide +kernel
theorem dX2_byWalking_65 : decode cX2_byWalking 65 = .ok (.iinc 5 1, 3) := by decide +kernel
theorem dX2_byWalking_68 : decode cX2_byWalking 68 = .ok (.goto (-37), 3) := by decide +kernel
theorem dX2_byWalking_71 : decode cX2_byWalking 71 = .ok (.iload_n 2, 1) := by decide +kernel
theorem dX2_byWalking_72 : decode cX2_byWalking 72 = .ok (.iload_n 3, 1) := by decide +kernel
theorem dX2_byWalking_73 : decode cX2_byWalking 73 = .ok (.if_icmp .ne 7, 3) := by decide +kernel
theorem dX2_byWalking_76 : decode cX2_byWalking 76 = .ok (.iload_n 2, 1) := by decide +kernel
theorem dX2_byWalking_77 : decode cX2_byWalking 77 = .ok (.goto 4, 3) := by decide +kernel
theorem dX2_byWalking_80 : decode cX2_byWalking 80 = .ok (.iconst (-1), 1) := by decide +kernel
theorem dX2_byWalking_81 : decode cX2_byWalking 81 = .ok (.ireturn, 1) := by decide +kernel
theorem dX2_byEuclid_0 : decode cX2_byEuclid 0 = .ok (.aload_n 0, 1) := by decide +kernel
theorem dX2_byEuclid_1 : decode cX2_byEuclid 1 = .ok (.getfield 15, 3) := by decide +kernel
theorem dX2_byEuclid_4 : decode cX2_byEuclid 4 = .ok (.i2l, 1) := by decide +kernel
theorem dX2_byEuclid_5 : decode cX2_byEuclid 5 = .ok (.aload_n 1, 1) := by decide +kernel
theorem dX2_byEuclid_6 : decode cX2_byEuclid 6 = .ok (.getfield 15, 3) := by decide +kernel
theorem dX2_byEuclid_9 : decode cX2_byEuclid 9 = .ok (.i2l, 1) := by decide +kernel
theorem dX2_byEuclid_10 : decode cX2_byEuclid 10 = .ok (.invokestatic 24, 3) := by decide +kernel
theorem dX2_byEuclid_13 : decode cX2_byEuclid 13 = .ok (.l2i, 1) := by decide +kernel
theorem dX2_byEuclid_14 : decode cX2_byEuclid 14 = .ok (.istore_n 2, 1) := by decide +kernel
theorem dX2_byEuclid_15 : decode cX2_byEuclid 15 = .ok (.aload_n 1, 1) := by decide +kernel
theorem dX2_byEuclid_16 : decode cX2_byEuclid 16 = .ok (.getfield 9, 3) := by decide +kernel
theorem dX2_byEuclid_19 : decode cX2_byEuclid 19 = .ok (.aload_n 0, 1) := by decide +kernel
theorem dX2_byEuclid_20 : decode cX2_byEuclid 20 = .ok (.getfield 9, 3) := by decide +kernel
theorem dX2_byEuclid_23 : decode cX2_byEuclid 23 = .ok (.isub, 1) := by decide +kernel
theorem dX2_byEuclid_24 : decode cX2_byEuclid 24 = .ok (.istore_n 3, 1) := by decide +kernel
theorem dX2_byEuclid_25 : decode cX2_byEuclid 25 = .ok (.iload_n 2, 1) := by decide +kernel
theorem dX2_byEuclid_26 : decode cX2_byEuclid 26 = .ok (.iconst 1, 1) := by decide +kernel
theorem dX2_byEuclid_27 : decode cX2_byEuclid 27 = .ok (.if_icmp .lt 9, 3) := by decide +kernel
theorem dX2_byEuclid_30 : decode cX2_byEuclid 30 = .ok (.iload_n 3, 1) := by decide +kernel
theorem dX2_byEuclid_31 : decode cX2_byEuclid 31 = .ok (.iload_n 2, 1) := by decide +kernel
theorem dX2_byEuclid_32 : decode cX2_byEuclid 32 = .ok (.irem, 1) := by decide +kernel
theorem dX2_byEuclid_33 : decode cX2_byEuclid 33 = .ok (.ifCond .eq 5, 3) := by decide +kernel
theorem dX2_byEuclid_36 : decode cX2_byEuclid 36 = .ok (.iconst (-1), 1) := by decide +kernel
theorem dX2_byEuclid_37 : decode cX2_byEuclid 37 = .ok (.ireturn, 1) := by decide +kernel
theorem dX2_byEuclid_38 : decode cX2_byEuclid 38 = .ok (.aload_n 1, 1) := by decide +kernel
theorem dX2_byEuclid_39 : decode cX2_byEuclid 39 = .ok (.getfield 15, 3) := by decide +kernel
theorem dX2_byEuclid_42 : decode cX2_byEuclid 42 = .ok (.iload_n 2, 1) := by decide +kernel
theorem dX2_byEuclid_43 : decode cX2_byEuclid 43 = .ok (.idiv, 1) := by decide +kernel
theorem dX2_byEuclid_44 : decode cX2_byEuclid 44 = .ok (.istore 4, 2) := by decide +kernel
theorem dX2_byEuclid_46 : decode cX2_byEuclid 46 = .ok (.iload 4, 2) := by decide +kernel
theorem dX2_byEuclid_48 : decode cX2_byEuclid 48 = .ok (.iconst 1, 1) := by decide +kernel
theorem dX2_byEuclid_49 : decode cX2_byEuclid 49 = .ok (.if_icmp .ge 5, 3) := by decide +kernel
theorem dX2_byEuclid_52 : decode cX2_byEuclid 52 = .ok (.iconst (-1), 1) := by decide +kernel
theorem dX2_byEuclid_53 : decode cX2_byEuclid 53 = .ok (.ireturn, 1) := by decide +kernel
theorem dX2_byEuclid_54 : decode cX2_byEuclid 54 = .ok (.aload_n 0, 1) := by decide +kernel
theorem dX2_byEuclid_55 : decode cX2_byEuclid 55 = .ok (.getfield 15, 3) := by decide +kernel
theorem dX2_byEuclid_58 : decode cX2_byEuclid 58 = .ok (.aload_n 1, 1) := by decide +kernel
theorem dX2_byEuclid_59 : decode cX2_byEuclid 59 = .ok (.getfield 15, 3) := by decide +kernel
theorem dX2_byEuclid_62 : decode cX2_byEuclid 62 = .ok (.invokestatic 30, 3) := by decide +kernel
theorem dX2_byEuclid_65 : decode cX2_byEuclid 65 = .ok (.istore 5, 2) := by decide +kernel
theorem dX2_byEuclid_67 : decode cX2_byEuclid 67 = .ok (.iload_n 3, 1) := by decide +kernel
theorem dX2_byEuclid_68 : decode cX2_byEuclid 68 = .ok (.iload_n 2, 1) := by decide +kernel
theorem dX2_byEuclid_69 : decode cX2_byEuclid 69 = .ok (.idiv, 1) := by decide +kernel
theorem dX2_byEuclid_70 : decode cX2_byEuclid 70 = .ok (.iload 4, 2) := by decide +kernel
theorem dX2_byEuclid_72 : decode cX2_byEuclid 72 = .ok (.invokestatic 34, 3) := by decide +kernel
theorem dX2_byEuclid_75 : decode cX2_byEuclid 75 = .ok (.iload 5, 2) := by decide +kernel
theorem dX2_byEuclid_77 : decode cX2_byEuclid 77 = .ok (.iload 4, 2) := by decide +kernel
theorem dX2_byEuclid_79 : decode cX2_byEuclid 79 = .ok (.invokestatic 34, 3) := by decide +kernel
theorem dX2_byEuclid_82 : decode cX2_byEuclid 82 = .ok (.imul, 1) := by decide +kernel
theorem dX2_byEuclid_83 : decode cX2_byEuclid 83 = .ok (.iload 4, 2) := by decide +kernel
theorem dX2_byEuclid_85 : decode cX2_byEuclid 85 = .ok (.invokestatic 34, 3) := by decide +kernel
theorem dX2_byEuclid_88 : decode cX2_byEuclid 88 = .ok (.istore 6, 2) := by decide +kernel
theorem dX2_byEuclid_90 : decode cX2_byEuclid 90 = .ok (.aload_n 0, 1) := by decide +kernel
theorem dX2_byEuclid_91 : decode cX2_byEuclid 91 = .ok (.getfield 9, 3) := by decide +kernel
theorem dX2_byEuclid_94 : decode cX2_byEuclid 94 = .ok (.aload_n 1, 1) := by decide +kernel
theorem dX2_byEuclid_95 : decode cX2_byEuclid 95 = .ok (.getfield 9, 3) := by decide +kernel
theorem dX2_byEuclid_98 : decode cX2_byEuclid 98 = .ok (.invokestatic 37, 3) := by decide +kernel
theorem dX2_byEuclid_101 : decode cX2_byEuclid 101 = .ok (.istore 7, 2) := by decide +kernel
theorem dX2_byEuclid_103 : decode cX2_byEuclid 103 = .ok (.iload 7, 2) := by decide +kernel
theorem dX2_byEuclid_105 : decode cX2_byEuclid 105 = .ok (.aload_n 0, 1) := by decide +kernel
theorem dX2_byEuclid_106 : decode cX2_byEuclid 106 = .ok (.getfield 9, 3) := by decide +kernel
theorem dX2_byEuclid_109 : decode cX2_byEuclid 109 = .ok (.iload 6, 2) := by decide +kernel
theorem dX2_byEuclid_111 : decode cX2_byEuclid 111 = .ok (.aload_n 0, 1) := by decide +kernel
theorem dX2_byEuclid_112 : decode cX2_byEuclid 112 = .ok (.getfield 15, 3) := by decide +kernel
theorem dX2_byEuclid_115 : decode cX2_byEuclid 115 = .ok (.imul, 1) := by decide +kernel
theorem dX2_byEuclid_116 : decode cX2_byEuclid 116 = .ok (.iadd, 1) := by decide +kernel
theorem dX2_byEuclid_117 : decode cX2_byEuclid 117 = .ok (.iload 4, 2) := by decide +kernel
theorem dX2_byEuclid_119 : decode cX2_byEuclid 119 = .ok (.aload_n 0, 1) := by decide +kernel
theorem dX2_byEuclid_120 : decode cX2_byEuclid 120 = .ok (.getfield 15, 3) := by decide +kernel
theorem dX2_byEuclid_123 : decode cX2_byEuclid 123 = .ok (.imul, 1) := by decide +kernel
theorem dX2_byEuclid_124 : decode cX2_byEuclid 124 = .ok (.invokestatic 40, 3) := by decide +kernel
theorem dX2_byEuclid_127 : decode cX2_byEuclid 127 = .ok (.ireturn, 1) := by decide +kernel
theorem dX2_notBefore_0 : decode cX2_notBefore 0 = .ok (.iload_n 1, 1) := by decide +kernel
theorem dX2_notBefore_1 : decode cX2_notBefore 1 = .ok (.iload_n 0, 1) := by decide +kernel
theorem dX2_notBefore_2 : decode cX2_notBefore 2 = .ok (.if_icmp .ge 8, 3) := by decide +kernel
theorem dX2_notBefore_5 : decode cX2_notBefore 5 = .ok (.iload_n 2, 1) := by decide +kernel
theorem dX2_notBefore_6 : decode cX2_notBefore 6 = .ok (.iconst 1, 1) := by decide +kernel
theorem dX2_notBefore_7 : decode cX2_notBefore 7 = .ok (.if_icmp .ge 5, 3) := by decide +kernel
theorem dX2_notBefore_10 : decode cX2_notBefore 10 = .ok (.iload_n 1, 1) := by decide +kernel
theorem dX2_notBefore_11 : decode cX2_notBefore 11 = .ok (.ireturn, 1) := by decide +kernel
theorem dX2_notBefore_12 : decode cX2_notBefore 12 = .ok (.iload_n 0, 1) := by decide +kernel
theorem dX2_notBefore_13 : decode cX2_notBefore 13 = .ok (.iload_n 1, 1) := by decide +kernel
theorem dX2_notBefore_14 : decode cX2_notBefore 14 = .ok (.iload_n 0, 1) := by decide +kernel
theorem dX2_notBefore_15 : decode cX2_notBefore 15 = .ok (.isub, 1) := by decide +kernel
theorem dX2_notBefore_16 : decode cX2_notBefore 16 = .ok (.iload_n 2, 1) := by decide +kernel
theorem dX2_notBefore_17 : decode cX2_notBefore 17 = .ok (.invokestatic 34, 3) := by decide +kernel
theorem dX2_notBefore_20 : decode cX2_notBefore 20 = .ok (.iadd, 1) := by decide +kernel
theorem dX2_notBefore_21 : decode cX2_notBefore 21 = .ok (.ireturn, 1) := by decide +kernel
theorem dX2_factorOfDivisor_0 : decode cX2_factorOfDivisor 0 = .ok (.iconst 1, 1) := by decide +kernel
theorem dX2_factorOfDivisor_1 : decode cX2_factorOfDivisor 1 = .ok (.istore_n 2, 1) := by decide +kernel
theorem dX2_factorOfDivisor_2 : decode cX2_factorOfDivisor 2 = .ok (.iconst 0, 1) := by decide +kernel
theorem dX2_factorOfDivisor_3 : decode cX2_factorOfDivisor 3 = .ok (.istore_n 3, 1) := by decide +kernel
theorem dX2_factorOfDivisor_4 : decode cX2_factorOfDivisor 4 = .ok (.iconst 0, 1) := by decide +kernel
theorem dX2_factorOfDivisor_5 : decode cX2_factorOfDivisor 5 = .ok (.istore 4, 2) := by decide +kernel
theorem dX2_factorOfDivisor_7 : decode cX2_factorOfDivisor 7 = .ok (.iload 4, 2) := by decide +kernel
theorem dX2_factorOfDivisor_9 : decode cX2_factorOfDivisor 9 = .ok (.bipush 100, 2) := by decide +kernel
theorem dX2_factorOfDivisor_11 : decode cX2_factorOfDivisor 11 = .ok (.if_icmp .ge 41, 3) := by decide +kernel
theorem dX2_factorOfDivisor_14 : decode cX2_factorOfDivisor 14 = .ok (.iload_n 1, 1) := by decide +kernel
theorem dX2_factorOfDivisor_15 : decode cX2_factorOfDivisor 15 = .ok (.ifCond .le 37, 3) := by decide +kernel
theorem dX2_factorOfDivisor_18 : decode cX2_factorOfDivisor 18 = .ok (.iload_n 0, 1) := by decide +kernel
theorem dX2_factorOfDivisor_19 : decode cX2_factorOfDivisor 19 = .ok (.iload_n 1, 1) := by decide +kernel
theorem dX2_factorOfDivisor_20 : decode cX2_factorOfDivisor 20 = .ok (.idiv, 1) := by decide +kernel
theorem dX2_factorOfDivisor_21 : decode cX2_factorOfDivisor 21 = .ok (.istore 5, 2) := by decide +kernel
theorem dX2_factorOfDivisor_23 : decode cX2_factorOfDivisor 23 = .ok (.iload_n 0, 1) := by decide +kernel
theorem dX2_factorOfDivisor_24 : decode cX2_factorOfDivisor 24 = .ok (.iload_n 1, 1) := by decide +kernel
theorem dX2_factorOfDivisor_25 : decode cX2_factorOfDivisor 25 = .ok (.irem, 1) := by decide +kernel
theorem dX2_factorOfDivisor_26 : decode cX2_factorOfDivisor 26 = .ok (.istore 6, 2) := by decide +kernel
theorem dX2_factorOfDivisor_28 : decode cX2_factorOfDivisor 28 = .ok (.iload_n 1, 1) := by decide +kernel
theorem dX2_factorOfDivisor_29 : decode cX2_factorOfDivisor 29 = .ok (.istore_n 0, 1) := by decide +kernel
theorem dX2_factorOfDivisor_30 : decode cX2_factorOfDivisor 30 = .ok (.iload 6, 2) := by decide +kernel
theorem dX2_factorOfDivisor_32 : decode cX2_factorOfDivisor 32 = .ok (.istore_n 1, 1) := by decide +kernel
theorem dX2_factorOfDivisor_33 : decode cX2_factorOfDivisor 33 = .ok (.iload_n 2, 1) := by decide +kernel
theorem dX2_factorOfDivisor_34 : decode cX2_factorOfDivisor 34 = .ok (.iload 5, 2) := by decide +kernel
theorem dX2_factorOfDivisor_36 : decode cX2_factorOfDivisor 36 = .ok (.iload_n 3, 1) := by decide +kernel
theorem dX2_factorOfDivisor_37 : decode cX2_factorOfDivisor 37 = .ok (.imul, 1) := by decide +kernel
theorem dX2_factorOfDivisor_38 : decode cX2_factorOfDivisor 38 = .ok (.isub, 1) := by decide +kernel
theorem dX2_factorOfDivisor_39 : decode cX2_factorOfDivisor 39 = .ok (.istore 7, 2) := by decide +kernel
theorem dX2_factorOfDivisor_41 : decode cX2_factorOfDivisor 41 = .ok (.iload_n 3, 1) := by decide +kernel
theorem dX2_factorOfDivisor_42 : decode cX2_factorOfDivisor 42 = .ok (.istore_n 2, 1) := by decide +kernel
theorem dX2_factorOfDivisor_43 : decode cX2_factorOfDivisor 43 = .ok (.iload 7, 2) := by decide +kernel
theorem dX2_factorOfDivisor_45 : decode cX2_factorOfDivisor 45 = .ok (.istore_n 3, 1) := by decide +kernel
theorem dX2_factorOfDivisor_46 : decode cX2_factorOfDivisor 46 = .ok (.iinc 4 1, 3) := by decide +kernel
theorem dX2_factorOfDivisor_49 : decode cX2_factorOfDivisor 49 = .ok (.goto (-42), 3) := by decide +kernel
theorem dX2_factorOfDivisor_52 : decode cX2_factorOfDivisor 52 = .ok (.iload_n 2, 1) := by decide +kernel
theorem dX2_factorOfDivisor_53 : decode cX2_factorOfDivisor 53 = .ok (.ireturn, 1) := by decide +kernel
theorem dX2_commonDivisor_0 : decode cX2_commonDivisor 0 = .ok (.iconst 0, 1) := by decide +kernel
theorem dX2_commonDivisor_1 : decode cX2_commonDivisor 1 = .ok (.istore 4, 2) := by decide +kernel
theorem dX2_commonDivisor_3 : decode cX2_commonDivisor 3 = .ok (.iload 4, 2) := by decide +kernel
theorem dX2_commonDivisor_5 : decode cX2_commonDivisor 5 = .ok (.bipush 100, 2) := by decide +kernel
theorem dX2_commonDivisor_7 : decode cX2_commonDivisor 7 = .ok (.if_icmp .ge 25, 3) := by decide +kernel
theorem dX2_commonDivisor_10 : decode cX2_commonDivisor 10 = .ok (.lload_n 2, 1) := by decide +kernel
theorem dX2_commonDivisor_11 : decode cX2_commonDivisor 11 = .ok (.lconst 0, 1) := by decide +kernel
theorem dX2_commonDivisor_12 : decode cX2_commonDivisor 12 = .ok (.lcmp, 1) := by decide +kernel
theorem dX2_commonDivisor_13 : decode cX2_commonDivisor 13 = .ok (.ifCond .le 19, 3) := by decide +kernel
theorem dX2_commonDivisor_16 : decode cX2_commonDivisor 16 = .ok (.lload_n 0, 1) := by decide +kernel
theorem dX2_commonDivisor_17 : decode cX2_commonDivisor 17 = .ok (.lload_n 2, 1) := by decide +kernel
theorem dX2_commonDivisor_18 : decode cX2_commonDivisor 18 = .ok (.lrem, 1) := by decide +kernel
theorem dX2_commonDivisor_19 : decode cX2_commonDivisor 19 = .ok (.lstore 5, 2) := by decide +kernel
theorem dX2_commonDivisor_21 : decode cX2_commonDivisor 21 = .ok (.lload_n 2, 1) := by decide +kernel
theorem dX2_commonDivisor_22 : decode cX2_commonDivisor 22 = .ok (.lstore_n 0, 1) := by decide +kernel
theorem dX2_commonDivisor_23 : decode cX2_commonDivisor 23 = .ok (.lload 5, 2) := by decide +kernel
theorem dX2_commonDivisor_25 : decode cX2_commonDivisor 25 = .ok (.lstore_n 2, 1) := by decide +kernel
theorem dX2_commonDivisor_26 : decode cX2_commonDivisor 26 = .ok (.iinc 4 1, 3) := by decide +kernel
theorem dX2_commonDivisor_29 : decode cX2_commonDivisor 29 = .ok (.goto (-26), 3) := by decide +kernel
theorem dX2_commonDivisor_32 : decode cX2_commonDivisor 32 = .ok (.lload_n 0, 1) := by decide +kernel
theorem dX2_commonDivisor_33 : decode cX2_commonDivisor 33 = .ok (.lreturn, 1) := by decide +kernel
theorem dX2_commonMultiple_0 : decode cX2_commonMultiple 0 = .ok (.lload_n 0, 1) := by decide +kernel
theorem dX2_commonMultiple_1 : decode cX2_commonMultiple 1 = .ok (.lload_n 2, 1) := by decide +kernel
theorem dX2_commonMultiple_2 : decode cX2_commonMultiple 2 = .ok (.invokestatic 24, 3) := by decide +kernel
theorem dX2_commonMultiple_5 : decode cX2_commonMultiple 5 = .ok (.lstore 4, 2) := by decide +kernel
theorem dX2_commonMultiple_7 : decode cX2_commonMultiple 7 = .ok (.lload 4, 2) := by decide +kernel
theorem dX2_commonMultiple_9 : decode cX2_commonMultiple 9 = .ok (.lconst 1, 1) := by decide +kernel
theorem dX2_commonMultiple_10 : decode cX2_commonMultiple 10 = .ok (.lcmp, 1) := by decide +kernel
theorem dX2_commonMultiple_11 : decode cX2_commonMultiple 11 = .ok (.ifCond .ge 7, 3) := by decide +kernel
theorem dX2_commonMultiple_14 : decode cX2_commonMultiple 14 = .ok (.lload_n 0, 1) := by decide +kernel
theorem dX2_commonMultiple_15 : decode cX2_commonMultiple 15 = .ok (.goto 9, 3) := by decide +kernel
theorem dX2_commonMultiple_18 : decode cX2_commonMultiple 18 = .ok (.lload_n 0, 1) := by decide +kernel
theorem dX2_commonMultiple_19 : decode cX2_commonMultiple 19 = .ok (.lload 4, 2) := by decide +kernel
theorem dX2_commonMultiple_21 : decode cX2_commonMultiple 21 = .ok (.ldiv, 1) := by decide +kernel
theorem dX2_commonMultiple_22 : decode cX2_commonMultiple 22 = .ok (.lload_n 2, 1) := by decide +kernel
theorem dX2_commonMultiple_23 : decode cX2_commonMultiple 23 = .ok (.lmul, 1) := by decide +kernel
theorem dX2_commonMultiple_24 : decode cX2_commonMultiple 24 = .ok (.lreturn, 1) := by decide +kernel
theorem dX3_init_0 : decode cX3_init 0 = .ok (.aload_n 0, 1) := by decide +kernel
theorem dX3_init_1 : decode cX3_init 1 = .ok (.invokespecial 3, 3) := by decide +kernel
theorem dX3_init_4 : decode cX3_init 4 = .ok (.aload_n 0, 1) := by decide +kernel
theorem dX3_init_5 : decode cX3_init 5 = .ok (.bipush 60, 2) := by decide +kernel
theorem dX3_init_7 : decode cX3_init 7 = .ok (.newarray .char, 2) := by decide +kernel
theorem dX3_init_9 : decode cX3_init 9 = .ok (.putfield 9, 3) := by decide +kernel
theorem dX3_init_12 : decode cX3_init 12 = .ok (.aload_n 0, 1) := by decide +kernel
theorem dX3_init_13 : decode cX3_init 13 = .ok (.bipush 12, 2) := by decide +kernel
theorem dX3_init_15 : decode cX3_init 15 = .ok (.newarray .int, 2) := by decide +kernel
theorem dX3_init_17 : decode cX3_init 17 = .ok (.putfield 15, 3) := by decide +kernel
theorem dX3_init_20 : decode cX3_init 20 = .ok (.aload_n 0, 1) := by decide +kernel
theorem dX3_init_21 : decode cX3_init 21 = .ok (.bipush 12, 2) := by decide +kernel
theorem dX3_init_23 : decode cX3_init 23 = .ok (.iconst 3, 1) := by decide +kernel
theorem dX3_init_24 : decode cX3_init 24 = .ok (.multianewarray 19 2, 4) := by decide +kernel
theorem dX3_init_28 : decode cX3_init 28 = .ok (.putfield 21, 3) := by decide +kernel
theorem dX3_init_31 : decode cX3_init 31 = .ok (.return_, 1) := by decide +kernel
theorem dX4_init_0 : decode cX4_init 0 = .ok (.aload_n 0, 1) := by decide +kernel
theorem dX4_init_1 : decode cX4_init 1 = .ok (.invokespecial 3, 3) := by decide +kernel
theorem dX4_init_4 : decode cX4_init 4 = .ok (.aload_n 0, 1) := by decide +kernel
theorem dX4_init_5 : decode cX4_init 5 = .ok (.bipush 12, 2) := by decide +kernel
theorem dX4_init_7 : decode cX4_init 7 = .ok (.newarray .int, 2) := by decide +kernel
theorem dX4_init_9 : decode cX4_init 9 = .ok (.putfield 9, 3) := by decide +kernel
theorem dX4_init_12 : decode cX4_init 12 = .ok (.return_, 1) := by decide +kernel
theorem dX4_copyFrom_0 : decode cX4_copyFrom 0 = .ok (.iconst 0, 1) := by decide +kernel
theorem dX4_copyFrom_1 : decode cX4_copyFrom 1 = .ok (.istore_n 2, 1) := by decide +kernel
theorem dX4_copyFrom_2 : decode cX4_copyFrom 2 = .ok (.iload_n 2, 1) := by decide +kernel
theorem dX4_copyFrom_3 : decode cX4_copyFrom 3 = .ok (.bipush 12, 2) := by decide +kernel
theorem dX4_copyFrom_5 : decode cX4_copyFrom 5 = .ok (.if_icmp .ge 21, 3) := by decide +kernel
theorem dX4_copyFrom_8 : decode cX4_copyFrom 8 = .ok (.aload_n 0, 1) := by decide +kernel
theorem dX4_copyFrom_9 : decode cX4_copyFrom 9 = .ok (.getfield 9, 3) := by decide +kernel
theorem dX4_copyFrom_12 : decode cX4_copyFrom 12 = .ok (.iload_n 2, 1) := by decide +kernel
theorem dX4_copyFrom_13 : decode cX4_copyFrom 13 = .ok (.aload_n 1, 1) := by decide +kernel
theorem dX4_copyFrom_14 : decode cX4_copyFrom 14 = .ok (.getfield 9, 3) := by decide +kernel
theorem dX4_copyFrom_17 : decode cX4_copyFrom 17 = .ok (.iload_n 2, 1) := by decide +kernel
theorem dX4_copyFrom_18 : decode cX4_copyFrom 18 = .ok (.iaload, 1) := by decide +kernel
theorem dX4_copyFrom_19 : decode cX4_copyFrom 19 = .ok (.iastore, 1) := by decide +kernel
theorem dX4_copyFrom_20 : decode cX4_copyFrom 20 = .ok (.iinc 2 1, 3) := by decide +kernel
theorem dX4_copyFrom_23 : decode cX4_copyFrom 23 = .ok (.goto (-21), 3) := by decide +kernel
theorem dX4_copyFrom_26 : decode cX4_copyFrom 26 = .ok (.aload_n 0, 1) := by decide +kernel
theorem dX4_copyFrom_27 : decode cX4_copyFrom 27 = .ok (.aload_n 1, 1) := by decide +kernel
theorem dX4_copyFrom_28 : decode cX4_copyFrom 28 = .ok (.getfield 15, 3) := by decide +kernel
theorem dX4_copyFrom_31 : decode cX4_copyFrom 31 = .ok (.putfield 15, 3) := by decide +kernel
theorem dX4_copyFrom_34 : decode cX4_copyFrom 34 = .ok (.aload_n 0, 1) := by decide +kernel
theorem dX4_copyFrom_35 : decode cX4_copyFrom 35 = .ok (.aload_n 1, 1) := by decide +kernel
theorem dX4_copyFrom_36 : decode cX4_copyFrom 36 = .ok (.getfield 19, 3) := by decide +kernel
theorem dX4_copyFrom_39 : decode cX4_copyFrom 39 = .ok (.putfield 19, 3) := by decide +kernel
theorem dX4_copyFrom_42 : decode cX4_copyFrom 42 = .ok (.return_, 1) := by decide +kernel
theorem dX4_receive_0 : decode cX4_receive 0 = .ok (.aload_n 0, 1) := by decide +kernel
theorem dX4_receive_1 : decode cX4_receive 1 = .ok (.getfield 9, 3) := by decide +kernel
theorem dX4_receive_4 : decode cX4_receive 4 = .ok (.iload_n 1, 1) := by decide +kernel
theorem dX4_receive_5 : decode cX4_receive 5 = .ok (.bipush 12, 2) := by decide +kernel
theorem dX4_receive_7 : decode cX4_receive 7 = .ok (.invokestatic 22, 3) := by decide +kernel
theorem dX4_receive_10 : decode cX4_receive 10 = .ok (.dup2, 1) := by decide +kernel
theorem dX4_receive_11 : decode cX4_receive 11 = .ok (.iaload, 1) := by decide +kernel
theorem dX4_receive_12 : decode cX4_receive 12 = .ok (.iload_n 2, 1) := by decide +kernel
theorem dX4_receive_13 : decode cX4_receive 13 = .ok (.iadd, 1) := by decide +kernel
theorem dX4_receive_14 : decode cX4_receive 14 = .ok (.iastore, 1) := by decide +kernel
theorem dX4_receive_15 : decode cX4_receive 15 = .ok (.aload_n 0, 1) := by decide +kernel
theorem dX4_receive_16 : decode cX4_receive 16 = .ok (.dup, 1) := by decide +kernel
theorem dX4_receive_17 : decode cX4_receive 17 = .ok (.getfield 15, 3) := by decide +kernel
theorem dX4_receive_20 : decode cX4_receive 20 = .ok (.iload_n 2, 1) := by decide +kernel
theorem dX4_receive_21 : decode cX4_receive 21 = .ok (.iadd, 1) := by decide +kernel
theorem dX4_receive_22 : decode cX4_receive 22 = .ok (.putfield 15, 3) := by decide +kernel
theorem dX4_receive_25 : decode cX4_receive 25 = .ok (.return_, 1) := by decide +kernel
theorem dX4_dustOf_0 : decode cX4_dustOf 0 = .ok (.iconst 0, 1) := by decide +kernel
theorem dX4_dustOf_1 : decode cX4_dustOf 1 = .ok (.istore_n 3, 1) := by decide +kernel
theorem dX4_dustOf_2 : decode cX4_dustOf 2 = .ok (.iconst 0, 1) := by decide +kernel
theorem dX4_dustOf_3 : decode cX4_dustOf 3 = .ok (.istore 4, 2) := by decide +kernel
theorem dX4_dustOf_5 : decode cX4_dustOf 5 = .ok (.iload 4, 2) := by decide +kernel
theorem dX4_dustOf_7 : decode cX4_dustOf 7 = .ok (.iload_n 2, 1) := by decide +kernel
theorem dX4_dustOf_8 : decode cX4_dustOf 8 = .ok (.if_icmp .ge 26, 3) := by decide +kernel
theorem dX4_dustOf_11 : decode cX4_dustOf 11 = .ok (.iload_n 3, 1) := by decide +kernel
theorem dX4_dustOf_12 : decode cX4_dustOf 12 = .ok (.aload_n 0, 1) := by decide +kernel
theorem dX4_dustOf_13 : decode cX4_dustOf 13 = .ok (.getfield 9, 3) := by decide +kernel
theorem dX4_dustOf_16 : decode cX4_dustOf 16 = .ok (.iload_n 1, 1) := by decide +kernel
theorem dX4_dustOf_17 : decode cX4_dustOf 17 = .ok (.iload 4, 2) := by decide +kernel
theorem dX4_dustOf_19 : decode cX4_dustOf 19 = .ok (.iadd, 1) := by decide +kernel
theorem dX4_dustOf_20 : decode cX4_dustOf 20 = .ok (.bipush 12, 2) := by decide +kernel
theorem dX4_dustOf_22 : decode cX4_dustOf 22 = .ok (.invokestatic 22, 3) := by decide +kernel
theorem dX4_dustOf_25 : decode cX4_dustOf 25 = .ok (.iaload, 1) := by decide +kernel
theorem dX4_dustOf_26 : decode cX4_dustOf 26 = .ok (.iadd, 1) := by decide +kernel
theorem dX4_dustOf_27 : decode cX4_dustOf 27 = .ok (.istore_n 3, 1) := by decide +kernel
theorem dX4_dustOf_28 : decode cX4_dustOf 28 = .ok (.iinc 4 1, 3) := by decide +kernel
theorem dX4_dustOf_31 : decode cX4_dustOf 31 = .ok (.goto (-26), 3) := by decide +kernel
theorem dX4_dustOf_34 : decode cX4_dustOf 34 = .ok (.iload_n 3, 1) := by decide +kernel
theorem dX4_dustOf_35 : decode cX4_dustOf 35 = .ok (.ireturn, 1) := by decide +kernel
theorem dX4_gainOf_0 : decode cX4_gainOf 0 = .ok (.aload_n 0, 1) := by decide +kernel
theorem dX4_gainOf_1 : decode cX4_gainOf 1 = .ok (.iload_n 1, 1) := by decide +kernel
theorem dX4_gainOf_2 : decode cX4_gainOf 2 = .ok (.iload_n 2, 1) := by decide +kernel
theorem dX4_gainOf_3 : decode cX4_gainOf 3 = .ok (.invokevirtual 28, 3) := by decide +kernel
theorem dX4_gainOf_6 : decode cX4_gainOf 6 = .ok (.iload_n 3, 1) := by decide +kernel
theorem dX4_gainOf_7 : decode cX4_gainOf 7 = .ok (.iload_n 2, 1) := by decide +kernel
theorem dX4_gainOf_8 : decode cX4_gainOf 8 = .ok (.imul, 1) := by decide +kernel
theorem dX4_gainOf_9 : decode cX4_gainOf 9 = .ok (.isub, 1) := by decide +kernel
theorem dX4_gainOf_10 : decode cX4_gainOf 10 = .ok (.ireturn, 1) := by decide +kernel
theorem dX4_empty_0 : decode cX4_empty 0 = .ok (.aload_n 0, 1) := by decide +kernel
theorem dX4_empty_1 : decode cX4_empty 1 = .ok (.iload_n 1, 1) := by decide +kernel
theorem dX4_empty_2 : decode cX4_empty 2 = .ok (.iload_n 2, 1) := by decide +kernel
theorem dX4_empty_3 : decode cX4_empty 3 = .ok (.invokevirtual 28, 3) := by decide +kernel
theorem dX4_empty_6 : decode cX4_empty 6 = .ok (.istore_n 3, 1) := by decide +kernel
theorem dX4_empty_7 : decode cX4_empty 7 = .ok (.iconst 0, 1) := by decide +kernel
theorem dX4_empty_8 : decode cX4_empty 8 = .ok (.istore 4, 2) := by decide +kernel
theorem dX4_empty_10 : decode cX4_empty 10 = .ok (.iload 4, 2) := by decide +kernel
theorem dX4_empty_12 : decode cX4_empty 12 = .ok (.iload_n 2, 1) := by decide +kernel
theorem dX4_empty_13 : decode cX4_empty 13 = .ok (.if_icmp .ge 24, 3) := by decide +kernel
theorem dX4_empty_16 : decode cX4_empty 16 = .ok (.aload_n 0, 1) := by decide +kernel
theorem dX4_empty_17 : decode cX4_empty 17 = .ok (.getfield 9, 3) := by decide +kernel
theorem dX4_empty_20 : decode cX4_empty 20 = .ok (.iload_n 1, 1) := by decide +kernel
theorem dX4_empty_21 : decode cX4_empty 21 = .ok (.iload 4, 2) := by decide +kernel
theorem dX4_empty_23 : decode cX4_empty 23 = .ok (.iadd, 1) := by decide +kernel
theorem dX4_empty_24 : decode cX4_empty 24 = .ok (.bipush 12, 2) := by decide +kernel
theorem dX4_empty_26 : decode cX4_empty 26 = .ok (.invokestatic 22, 3) := by decide +kernel
theorem dX4_empty_29 : decode cX4_empty 29 = .ok (.iconst 0, 1) := by decide +kernel
theorem dX4_empty_30 : decode cX4_empty 30 = .ok (.iastore, 1) := by decide +kernel
theorem dX4_empty_31 : decode cX4_empty 31 = .ok (.iinc 4 1, 3) := by decide +kernel
theorem dX4_empty_34 : decode cX4_empty 34 = .ok (.goto (-24), 3) := by decide +kernel
theorem dX4_empty_37 : decode cX4_empty 37 = .ok (.aload_n 0, 1) := by decide +kernel
theorem dX4_empty_38 : decode cX4_empty 38 = .ok (.dup, 1) := by decide +kernel
theorem dX4_empty_39 : decode cX4_empty 39 = .ok (.getfield 19, 3) := by decide +kernel
theorem dX4_empty_42 : decode cX4_empty 42 = .ok (.iload_n 3, 1) := by decide +kernel
theorem dX4_empty_43 : decode cX4_empty 43 = .ok (.iadd, 1) := by decide +kernel
theorem dX4_empty_44 : decode cX4_empty 44 = .ok (.putfield 19, 3) := by decide +kernel
theorem dX4_empty_47 : decode cX4_empty 47 = .ok (.iload_n 3, 1) := by decide +kernel
theorem dX4_empty_48 : decode cX4_empty 48 = .ok (.ireturn, 1) := by decide +kernel
theorem dX4_dustyPlaces_0 : decode cX4_dustyPlaces 0 = .ok (.iconst 0, 1) := by decide +kernel
theorem dX4_dustyPlaces_1 : decode cX4_dustyPlaces 1 = .ok (.istore_n 1, 1) := by decide +kernel
theorem dX4_dustyPlaces_2 : decode cX4_dustyPlaces 2 = .ok (.iconst 0, 1) := by decide +kernel
theorem dX4_dustyPlaces_3 : decode cX4_dustyPlaces 3 = .ok (.istore_n 2, 1) := by decide +kernel
theorem dX4_dustyPlaces_4 : decode cX4_dustyPlaces 4 = .ok (.iload_n 2, 1) := by decide +kernel
theorem dX4_dustyPlaces_5 : decode cX4_dustyPlaces 5 = .ok (.bipush 12, 2) := by decide +kernel
theorem dX4_dustyPlaces_7 : decode cX4_dustyPlaces 7 = .ok (.if_icmp .ge 21, 3) := by decide +kernel
theorem dX4_dustyPlaces_10 : decode cX4_dustyPlaces 10 = .ok (.aload_n 0, 1) := by decide +kernel
theorem dX4_dustyPlaces_11 : decode cX4_dustyPlaces 11 = .ok (.getfield 9, 3) := by decide +kernel
theorem dX4_dustyPlaces_14 : decode cX4_dustyPlaces 14 = .ok (.iload_n 2, 1) := by decide +kernel
theorem dX4_dustyPlaces_15 : decode cX4_dustyPlaces 15 = .ok (.iaload, 1) := by decide +kernel
theorem dX4_dustyPlaces_16 : decode cX4_dustyPlaces 16 = .ok (.ifCond .le 6, 3) := by decide +kernel
theorem dX4_dustyPlaces_19 : decode cX4_dustyPlaces 19 = .ok (.iinc 1 1, 3) := by decide +kernel
theorem dX4_dustyPlaces_22 : decode cX4_dustyPlaces 22 = .ok (.iinc 2 1, 3) := by decide +kernel
theorem dX4_dustyPlaces_25 : decode cX4_dustyPlaces 25 = .ok (.goto (-21), 3) := by decide +kernel
theorem dX4_dustyPlaces_28 : decode cX4_dustyPlaces 28 = .ok (.iload_n 1, 1) := by decide +kernel
theorem dX4_dustyPlaces_29 : decode cX4_dustyPlaces 29 = .ok (.ireturn, 1) := by decide +kernel
theorem dX4_greatestGainByRunningSums_0 : decode cX4_greatestGainByRunningSums 0 = .ok (.aload_n 0, 1) := by decide +kernel
theorem dX4_greatestGainByRunningSums_1 : decode cX4_greatestGainByRunningSums 1 = .ok (.getfield 9, 3) := by decide +kernel
theorem dX4_greatestGainByRunningSums_4 : decode cX4_greatestGainByRunningSums 4 = .ok (.iconst 0, 1) := by decide +kernel
theorem dX4_greatestGainByRunningSums_5 : decode cX4_greatestGainByRunningSums 5 = .ok (.iaload, 1) := by decide +kernel
theorem dX4_greatestGainByRunningSums_6 : decode cX4_greatestGainByRunningSums 6 = .ok (.iload_n 1, 1) := by decide +kernel
theorem dX4_greatestGainByRunningSums_7 : decode cX4_greatestGainByRunningSums 7 = .ok (.isub, 1) := by decide +kernel
theorem dX4_greatestGainByRunningSums_8 : decode cX4_greatestGainByRunningSums 8 = .ok (.istore_n 2, 1) := by decide +kernel
theorem dX4_greatestGainByRunningSums_9 : decode cX4_greatestGainByRunningSums 9 = .ok (.iload_n 2, 1) := by decide +kernel
theorem dX4_greatestGainByRunningSums_10 : decode cX4_greatestGainByRunningSums 10 = .ok (.istore_n 3, 1) := by decide +kernel
theorem dX4_greatestGainByRunningSums_11 : decode cX4_greatestGainByRunningSums 11 = .ok (.iload_n 2, 1) := by decide +kernel
theorem dX4_greatestGainByRunningSums_12 : decode cX4_greatestGainByRunningSums 12 = .ok (.istore 4, 2) := by decide +kernel
theorem dX4_greatestGainByRunningSums_14 : decode cX4_greatestGainByRunningSums 14 = .ok (.iload_n 2, 1) := by decide +kernel
theorem dX4_greatestGainByRunningSums_15 : decode cX4_greatestGainByRunningSums 15 = .ok (.istore 5, 2) := by decide +kernel
theorem dX4_greatestGainByRunningSums_17 : decode cX4_greatestGainByRunningSums 17 = .ok (.iload_n 2, 1) := by decide +kernel
theorem dX4_greatestGainByRunningSums_18 : decode cX4_greatestGainByRunningSums 18 = .ok (.istore 6, 2) := by decide +kernel
theorem dX4_greatestGainByRunningSums_20 : decode cX4_greatestGainByRunningSums 20 = .ok (.iconst 1, 1) := by decide +kernel
theorem dX4_greatestGainByRunningSums_21 : decode cX4_greatestGainByRunningSums 21 = .ok (.istore 7, 2) := by decide +kernel
theorem dX4_greatestGainByRunningSums_23 : decode cX4_greatestGainByRunningSums 23 = .ok (.iload 7, 2) := by decide +kernel
theorem dX4_greatestGainByRunningSums_25 : decode cX4_greatestGainByRunningSums 25 = .ok (.bipush 12, 2) := by decide +kernel
theorem dX4_greatestGainByRunningSums_27 : decode cX4_greatestGainByRunningSums 27 = .ok (.if_icmp .ge 62, 3) := by decide +kernel
theorem dX4_greatestGainByRunningSums_30 : decode cX4_greatestGainByRunningSums 30 = .ok (.aload_n 0, 1) := by decide +kernel
theorem dX4_greatestGainByRunningSums_31 : decode cX4_greatestGainByRunningSums 31 = .ok (.getfield 9, 3) := by decide +kernel
theorem dX4_greatestGainByRunningSums_34 : decode cX4_greatestGainByRunningSums 34 = .ok (.iload 7, 2) := by decide +kernel
theorem dX4_greatestGainByRunningSums_36 : decode cX4_greatestGainByRunningSums 36 = .ok (.iaload, 1) := by decide +kernel
theorem dX4_greatestGainByRunningSums_37 : decode cX4_greatestGainByRunningSums 37 = .ok (.iload_n 1, 1) := by decide +kernel
theorem dX4_greatestGainByRunningSums_38 : decode cX4_greatestGainByRunningSums 38 = .ok (.isub, 1) := by decide +kernel
theorem dX4_greatestGainByRunningSums_39 : decode cX4_greatestGainByRunningSums 39 = .ok (.istore 8, 2) := by decide +kernel
theorem dX4_greatestGainByRunningSums_41 : decode cX4_greatestGainByRunningSums 41 = .ok (.iload_n 2, 1) := by decide +kernel
theorem dX4_greatestGainByRunningSums_42 : decode cX4_greatestGainByRunningSums 42 = .ok (.iload 8, 2) := by decide +kernel
theorem dX4_greatestGainByRunningSums_44 : decode cX4_greatestGainByRunningSums 44 = .ok (.iadd, 1) := by decide +kernel
theorem dX4_greatestGainByRunningSums_45 : decode cX4_greatestGainByRunningSums 45 = .ok (.istore_n 2, 1) := by decide +kernel
theorem dX4_greatestGainByRunningSums_46 : decode cX4_greatestGainByRunningSums 46 = .ok (.iload_n 3, 1) := by decide +kernel
theorem dX4_greatestGainByRunningSums_47 : decode cX4_greatestGainByRunningSums 47 = .ok (.iconst 0, 1) := by decide +kernel
theorem dX4_greatestGainByRunningSums_48 : decode cX4_greatestGainByRunningSums 48 = .ok (.invokestatic 31, 3) := by decide +kernel
theorem dX4_greatestGainByRunningSums_51 : decode cX4_greatestGainByRunningSums 51 = .ok (.iload 8, 2) := by decide +kernel
theorem dX4_greatestGainByRunningSums_53 : decode cX4_greatestGainByRunningSums 53 = .ok (.iadd, 1) := by decide +kernel
theorem dX4_greatestGainByRunningSums_54 : decode cX4_greatestGainByRunningSums 54 = .ok (.istore_n 3, 1) := by decide +kernel
theorem dX4_greatestGainByRunningSums_55 : decode cX4_greatestGainByRunningSums 55 = .ok (.iload 4, 2) := by decide +kernel
theorem dX4_greatestGainByRunningSums_57 : decode cX4_greatestGainByRunningSums 57 = .ok (.iload_n 3, 1) := by decide +kernel
theorem dX4_greatestGainByRunningSums_58 : decode cX4_greatestGainByRunningSums 58 = .ok (.invokestatic 31, 3) := by decide +kernel
theorem dX4_greatestGainByRunningSums_61 : decode cX4_greatestGainByRunningSums 61 = .ok (.istore 4, 2) := by decide +kernel
theorem dX4_greatestGainByRunningSums_63 : decode cX4_greatestGainByRunningSums 63 = .ok (.iload 5, 2) := by decide +kernel
theorem dX4_greatestGainByRunningSums_65 : decode cX4_greatestGainByRunningSums 65 = .ok (.iconst 0, 1) := by decide +kernel
theorem dX4_greatestGainByRunningSums_66 : decode cX4_greatestGainByRunningSums 66 = .ok (.invokestatic 34, 3) := by decide +kernel
theorem dX4_greatestGainByRunningSums_69 : decode cX4_greatestGainByRunningSums 69 = .ok (.iload 8, 2) := by decide +kernel
theorem dX4_greatestGainByRunningSums_71 : decode cX4_greatestGainByRunningSums 71 = .ok (.iadd, 1) := by decide +kernel
theorem dX4_greatestGainByRunningSums_72 : decode cX4_greatestGainByRunningSums 72 = .ok (.istore 5, 2) := by decide +kernel
theorem dX4_greatestGainByRunningSums_74 : decode cX4_greatestGainByRunningSums 74 = .ok (.iload 6, 2) := by decide +kernel
theorem dX4_greatestGainByRunningSums_76 : decode cX4_greatestGainByRunningSums 76 = .ok (.iload 5, 2) := by decide +kernel
theorem dX4_greatestGainByRunningSums_78 : decode cX4_greatestGainByRunningSums 78 = .ok (.invokestatic 34, 3) := by decide +kernel
theorem dX4_greatestGainByRunningSums_81 : decode cX4_greatestGainByRunningSums 81 = .ok (.istore 6, 2) := by decide +kernel
theorem dX4_greatestGainByRunningSums_83 : decode cX4_greatestGainByRunningSums 83 = .ok (.iinc 7 1, 3) := by decide +kernel
theorem dX4_greatestGainByRunningSums_86 : decode cX4_greatestGainByRunningSums 86 = .ok (.goto (-63), 3) := by decide +kernel
theorem dX4_greatestGainByRunningSums_89 : decode cX4_greatestGainByRunningSums 89 = .ok (.iload 4, 2) := by decide +kernel
theorem dX4_greatestGainByRunningSums_91 : decode cX4_greatestGainByRunningSums 91 = .ok (.ifCond .ge 8, 3) := by decide +kernel
theorem dX4_greatestGainByRunningSums_94 : decode cX4_greatestGainByRunningSums 94 = .ok (.iload 4, 2) := by decide +kernel
theorem dX4_greatestGainByRunningSums_96 : decode cX4_greatestGainByRunningSums 96 = .ok (.goto 12, 3) := by decide +kernel
theorem dX4_greatestGainByRunningSums_99 : decode cX4_greatestGainByRunningSums 99 = .ok (.iload 4, 2) := by decide +kernel
theorem dX4_greatestGainByRunningSums_101 : decode cX4_greatestGainByRunningSums 101 = .ok (.iload_n 2, 1) := by decide +kernel
theorem dX4_greatestGainByRunningSums_102 : decode cX4_greatestGainByRunningSums 102 = .ok (.iload 6, 2) := by decide +kernel
theorem dX4_greatestGainByRunningSums_104 : decode cX4_greatestGainByRunningSums 104 = .ok (.isub, 1) := by decide +kernel
theorem dX4_greatestGainByRunningSums_105 : decode cX4_greatestGainByRunningSums 105 = .ok (.invokestatic 31, 3) := by decide +kernel
theorem dX4_greatestGainByRunningSums_108 : decode cX4_greatestGainByRunningSums 108 = .ok (.ireturn, 1) := by decide +kernel
theorem dX4_seekBestArc_0 : decode cX4_seekBestArc 0 = .ok (.aload_n 0, 1) := by decide +kernel
theorem dX4_seekBestArc_1 : decode cX4_seekBestArc 1 = .ok (.aload_n 0, 1) := by decide +kernel
theorem dX4_seekBestArc_2 : decode cX4_seekBestArc 2 = .ok (.iconst 0, 1) := by decide +kernel
theorem dX4_seekBestArc_3 : decode cX4_seekBestArc 3 = .ok (.iconst 1, 1) := by decide +kernel
theorem dX4_seekBestArc_4 : decode cX4_seekBestArc 4 = .ok (.iload_n 1, 1) := by decide +kernel
theorem dX4_seekBestArc_5 : decode cX4_seekBestArc 5 = .ok (.invokevirtual 37, 3) := by decide +kernel
theorem dX4_seekBestArc_8 : decode cX4_seekBestArc 8 = .ok (.putfield 41, 3) := by decide +kernel
theorem dX4_seekBestArc_11 : decode cX4_seekBestArc 11 = .ok (.aload_n 0, 1) := by decide +kernel
theorem dX4_seekBestArc_12 : decode cX4_seekBestArc 12 = .ok (.iconst 0, 1) := by decide +kernel
theorem dX4_seekBestArc_13 : decode cX4_seekBestArc 13 = .ok (.putfield 44, 3) := by decide +kernel
theorem dX4_seekBestArc_16 : decode cX4_seekBestArc 16 = .ok (.aload_n 0, 1) := by decide +kernel
theorem dX4_seekBestArc_17 : decode cX4_seekBestArc 17 = .ok (.iconst 1, 1) := by decide +kernel
theorem dX4_seekBestArc_18 : decode cX4_seekBestArc 18 = .ok (.putfield 47, 3) := by decide +kernel
theorem dX4_seekBestArc_21 : decode cX4_seekBestArc 21 = .ok (.iconst 1, 1) := by decide +kernel
theorem dX4_seekBestArc_22 : decode cX4_seekBestArc 22 = .ok (.istore_n 2, 1) := by decide +kernel
theorem dX4_seekBestArc_23 : decode cX4_seekBestArc 23 = .ok (.iload_n 2, 1) := by decide +kernel
theorem dX4_seekBestArc_24 : decode cX4_seekBestArc 24 = .ok (.bipush 12, 2) := by decide +kernel
theorem dX4_seekBestArc_26 : decode cX4_seekBestArc 26 = .ok (.if_icmp .gt 57, 3) := by decide +kernel
theorem dX4_seekBestArc_29 : decode cX4_seekBestArc 29 = .ok (.iconst 0, 1) := by decide +kernel
theorem dX4_seekBestArc_30 : decode cX4_seekBestArc 30 = .ok (.istore_n 3, 1) := by decide +kernel
theorem dX4_seekBestArc_31 : decode cX4_seekBestArc 31 = .ok (.iload_n 3, 1) := by decide +kernel
theorem dX4_seekBestArc_32 : decode cX4_seekBestArc 32 = .ok (.bipush 12, 2) := by decide +kernel
theorem dX4_seekBestArc_34 : decode cX4_seekBestArc 34 = .ok (.if_icmp .ge 43, 3) := by decide +kernel
theorem dX4_seekBestArc_37 : decode cX4_seekBestArc 37 = .ok (.aload_n 0, 1) := by decide +kernel
theorem dX4_seekBestArc_38 : decode cX4_seekBestArc 38 = .ok (.iload_n 3, 1) := by decide +kernel
theorem dX4_seekBestArc_39 : decode cX4_seekBestArc 39 = .ok (.iload_n 2, 1) := by decide +kernel
theorem dX4_seekBestArc_40 : decode cX4_seekBestArc 40 = .ok (.iload_n 1, 1) := by decide +kernel
theorem dX4_seekBestArc_41 : decode cX4_seekBestArc 41 = .ok (.invokevirtual 37, 3) := by decide +kernel
theorem dX4_seekBestArc_44 : decode cX4_seekBestArc 44 = .ok (.istore 4, 2) := by decide +kernel
theorem dX4_seekBestArc_46 : decode cX4_seekBestArc 46 = .ok (.iload 4, 2) := by decide +kernel
theorem dX4_seekBestArc_48 : decode cX4_seekBestArc 48 = .ok (.aload_n 0, 1) := by decide +kernel
theorem dX4_seekBestArc_49 : decode cX4_seekBestArc 49 = .ok (.getfield 41, 3) := by decide +kernel
theorem dX4_seekBestArc_52 : decode cX4_seekBestArc 52 = .ok (.if_icmp .le 19, 3) := by decide +kernel
theorem dX4_seekBestArc_55 : decode cX4_seekBestArc 55 = .ok (.aload_n 0, 1) := by decide +kernel
theorem dX4_seekBestArc_56 : decode cX4_seekBestArc 56 = .ok (.iload 4, 2) := by decide +kernel
theorem dX4_seekBestArc_58 : decode cX4_seekBestArc 58 = .ok (.putfield 41, 3) := by decide +kernel
theorem dX4_seekBestArc_61 : decode cX4_seekBestArc 61 = .ok (.aload_n 0, 1) := by decide +kernel
theorem dX4_seekBestArc_62 : decode cX4_seekBestArc 62 = .ok (.iload_n 3, 1) := by decide +kernel
theorem dX4_seekBestArc_63 : decode cX4_seekBestArc 63 = .ok (.putfield 44, 3) := by decide +kernel
theorem dX4_seekBestArc_66 : decode cX4_seekBestArc 66 = .ok (.aload_n 0, 1) := by decide +kernel
theorem dX4_seekBestArc_67 : decode cX4_seekBestArc 67 = .ok (.iload_n 2, 1) := by decide +kernel
theorem dX4_seekBestArc_68 : decode cX4_seekBestArc 68 = .ok (.putfield 47, 3) := by decide +kernel
theorem dX4_seekBestArc_71 : decode cX4_seekBestArc 71 = .ok (.iinc 3 1, 3) := by decide +kernel
theorem dX4_seekBestArc_74 : decode cX4_seekBestArc 74 = .ok (.goto (-43), 3) := by decide +kernel
theorem dX4_seekBestArc_77 : decode cX4_seekBestArc 77 = .ok (.iinc 2 1, 3) := by decide +kernel
theorem dX4_seekBestArc_80 : decode cX4_seekBestArc 80 = .ok (.goto (-57), 3) := by decide +kernel
theorem dX4_seekBestArc_83 : decode cX4_seekBestArc 83 = .ok (.return_, 1) := by decide +kernel
theorem dX5_init_0 : decode cX5_init 0 = .ok (.aload_n 0, 1) := by decide +kernel
theorem dX5_init_1 : decode cX5_init 1 = .ok (.invokespecial 3, 3) := by decide +kernel
theorem dX5_init_4 : decode cX5_init 4 = .ok (.aload_n 0, 1) := by decide +kernel
theorem dX5_init_5 : decode cX5_init 5 = .ok (.bipush 6, 2) := by decide +kernel
theorem dX5_init_7 : decode cX5_init 7 = .ok (.anewarray 9, 3) := by decide +kernel
theorem dX5_init_10 : decode cX5_init 10 = .ok (.putfield 11, 3) := by decide +kernel
theorem dX5_init_13 : decode cX5_init 13 = .ok (.iconst 0, 1) := by decide +kernel
theorem dX5_init_14 : decode cX5_init 14 = .ok (.istore_n 1, 1) := by decide +kernel
theorem dX5_init_15 : decode cX5_init 15 = .ok (.iload_n 1, 1) := by decide +kernel
theorem dX5_init_16 : decode cX5_init 16 = .ok (.bipush 6, 2) := by decide +kernel
theorem dX5_init_18 : decode cX5_init 18 = .ok (.if_icmp .ge 22, 3) := by decide +kernel
theorem dX5_init_21 : decode cX5_init 21 = .ok (.aload_n 0, 1) := by decide +kernel
theorem dX5_init_22 : decode cX5_init 22 = .ok (.getfield 11, 3) := by decide +kernel
theorem dX5_init_25 : decode cX5_init 25 = .ok (.iload_n 1, 1) := by decide +kernel
theorem dX5_init_26 : decode cX5_init 26 = .ok (.new 9, 3) := by decide +kernel
theorem dX5_init_29 : decode cX5_init 29 = .ok (.dup, 1) := by decide +kernel
theorem dX5_init_30 : decode cX5_init 30 = .ok (.invokespecial 17, 3) := by decide +kernel
theorem dX5_init_33 : decode cX5_init 33 = .ok (.aastore, 1) := by decide +kernel
theorem dX5_init_34 : decode cX5_init 34 = .ok (.iinc 1 1, 3) := by decide +kernel
theorem dX5_init_37 : decode cX5_init 37 = .ok (.goto (-22), 3) := by decide +kernel
theorem dX5_init_40 : decode cX5_init 40 = .ok (.aload_n 0, 1) := by decide +kernel
theorem dX5_init_41 : decode cX5_init 41 = .ok (.new 18, 3) := by decide +kernel
theorem dX5_init_44 : decode cX5_init 44 = .ok (.dup, 1) := by decide +kernel
theorem dX5_init_45 : decode cX5_init 45 = .ok (.invokespecial 20, 3) := by decide +kernel
theorem dX5_init_48 : decode cX5_init 48 = .ok (.putfield 21, 3) := by decide +kernel
theorem dX5_init_51 : decode cX5_init 51 = .ok (.aload_n 0, 1) := by decide +kernel
theorem dX5_init_52 : decode cX5_init 52 = .ok (.bipush 20, 2) := by decide +kernel
theorem dX5_init_54 : decode cX5_init 54 = .ok (.putfield 25, 3) := by decide +kernel
theorem dX5_init_57 : decode cX5_init 57 = .ok (.aload_n 0, 1) := by decide +kernel
theorem dX5_init_58 : decode cX5_init 58 = .ok (.iconst 2, 1) := by decide +kernel
theorem dX5_init_59 : decode cX5_init 59 = .ok (.putfield 29, 3) := by decide +kernel
theorem dX5_init_62 : decode cX5_init 62 = .ok (.return_, 1) := by decide +kernel
theorem dX5_copyFrom_0 : decode cX5_copyFrom 0 = .ok (.iconst 0, 1) := by decide +kernel
theorem dX5_copyFrom_1 : decode cX5_copyFrom 1 = .ok (.istore_n 2, 1) := by decide +kernel
theorem dX5_copyFrom_2 : decode cX5_copyFrom 2 = .ok (.iload_n 2, 1) := by decide +kernel
theorem dX5_copyFrom_3 : decode cX5_copyFrom 3 = .ok (.bipush 6, 2) := by decide +kernel
theorem dX5_copyFrom_5 : decode cX5_copyFrom 5 = .ok (.if_icmp .ge 24, 3) := by decide +kernel
theorem dX5_copyFrom_8 : decode cX5_copyFrom 8 = .ok (.aload_n 0, 1) := by decide +kernel
theorem dX5_copyFrom_9 : decode cX5_copyFrom 9 = .ok (.getfield 11, 3) := by decide +kernel
theorem dX5_copyFrom_12 : decode cX5_copyFrom 12 = .ok (.iload_n 2, 1) := by decide +kernel
theorem dX5_copyFrom_13 : decode cX5_copyFrom 13 = .ok (.aaload, 1) := by decide +kernel
theorem dX5_copyFrom_14 : decode cX5_copyFrom 14 = .ok (.aload_n 1, 1) := by decide +kernel
theorem dX5_copyFrom_15 : decode cX5_copyFrom 15 = .ok (.getfield 11, 3) := by decide +kernel
theorem dX5_copyFrom_18 : decode cX5_copyFrom 18 = .ok (.iload_n 2, 1) := by decide +kernel
theorem dX5_copyFrom_19 : decode cX5_copyFrom 19 = .ok (.aaload, 1) := by decide +kernel
theorem dX5_copyFrom_20 : decode cX5_copyFrom 20 = .ok (.invokevirtual 32, 3) := by decide +kernel
theorem dX5_copyFrom_23 : decode cX5_copyFrom 23 = .ok (.iinc 2 1, 3) := by decide +kernel
theorem dX5_copyFrom_26 : decode cX5_copyFrom 26 = .ok (.goto (-24), 3) := by decide +kernel
theorem dX5_copyFrom_29 : decode cX5_copyFrom 29 = .ok (.aload_n 0, 1) := by decide +kernel
theorem dX5_copyFrom_30 : decode cX5_copyFrom 30 = .ok (.getfield 21, 3) := by decide +kernel
theorem dX5_copyFrom_33 : decode cX5_copyFrom 33 = .ok (.aload_n 1, 1) := by decide +kernel
theorem dX5_copyFrom_34 : decode cX5_copyFrom 34 = .ok (.getfield 21, 3) := by decide +kernel
theorem dX5_copyFrom_37 : decode cX5_copyFrom 37 = .ok (.invokevirtual 36, 3) := by decide +kernel
theorem dX5_copyFrom_40 : decode cX5_copyFrom 40 = .ok (.aload_n 0, 1) := by decide +kernel
theorem dX5_copyFrom_41 : decode cX5_copyFrom 41 = .ok (.aload_n 1, 1) := by decide +kernel
theorem dX5_copyFrom_42 : decode cX5_copyFrom 42 = .ok (.getfield 39, 3) := by decide +kernel
theorem dX5_copyFrom_45 : decode cX5_copyFrom 45 = .ok (.putfield 39, 3) := by decide +kernel
theorem dX5_copyFrom_48 : decode cX5_copyFrom 48 = .ok (.aload_n 0, 1) := by decide +kernel
theorem dX5_copyFrom_49 : decode cX5_copyFrom 49 = .ok (.aload_n 1, 1) := by decide +kernel
theorem dX5_copyFrom_50 : decode cX5_copyFrom 50 = .ok (.getfield 42, 3) := by decide +kernel
theorem dX5_copyFrom_53 : decode cX5_copyFrom 53 = .ok (.putfield 42, 3) := by decide +kernel
theorem dX5_copyFrom_56 : decode cX5_copyFrom 56 = .ok (.aload_n 0, 1) := by decide +kernel
theorem dX5_copyFrom_57 : decode cX5_copyFrom 57 = .ok (.aload_n 1, 1) := by decide +kernel
theorem dX5_copyFrom_58 : decode cX5_copyFrom 58 = .ok (.getfield 45, 3) := by decide +kernel
theorem dX5_copyFrom_61 : decode cX5_copyFrom 61 = .ok (.putfield 45, 3) := by decide +kernel
theorem dX5_copyFrom_64 : decode cX5_copyFrom 64 = .ok (.aload_n 0, 1) := by decide +kernel
theorem dX5_copyFrom_65 : decode cX5_copyFrom 65 = .ok (.aload_n 1, 1) := by decide +kernel
theorem dX5_copyFrom_66 : decode cX5_copyFrom 66 = .ok (.getfield 25, 3) := by decide +kernel
theorem dX5_copyFrom_69 : decode cX5_copyFrom 69 = .ok (.putfield 25, 3) := by decide +kernel
theorem dX5_copyFrom_72 : decode cX5_copyFrom 72 = .ok (.aload_n 0, 1) := by decide +kernel
theorem dX5_copyFrom_73 : decode cX5_copyFrom 73 = .ok (.aload_n 1, 1) := by decide +kernel
theorem dX5_copyFrom_74 : decode cX5_copyFrom 74 = .ok (.getfield 29, 3) := by decide +kernel
theorem dX5_copyFrom_77 : decode cX5_copyFrom 77 = .ok (.putfield 29, 3) := by decide +kernel
theorem dX5_copyFrom_80 : decode cX5_copyFrom 80 = .ok (.aload_n 0, 1) := by decide +kernel
theorem dX5_copyFrom_81 : decode cX5_copyFrom 81 = .ok (.aload_n 1, 1) := by decide +kernel
theorem dX5_copyFrom_82 : decode cX5_copyFrom 82 = .ok (.getfield 48, 3) := by decide +kernel
theorem dX5_copyFrom_85 : decode cX5_copyFrom 85 = .ok (.putfield 48, 3) := by decide +kernel
theorem dX5_copyFrom_88 : decode cX5_copyFrom 88 = .ok (.aload_n 0, 1) := by decide +kernel
theorem dX5_copyFrom_89 : decode cX5_copyFrom 89 = .ok (.aload_n 1, 1) := by decide +kernel
theorem dX5_copyFrom_90 : decode cX5_copyFrom 90 = .ok (.getfield 51, 3) := by decide +kernel
theorem dX5_copyFrom_93 : decode cX5_copyFrom 93 = .ok (.putfield 51, 3) := by decide +kernel
theorem dX5_copyFrom_96 : decode cX5_copyFrom 96 = .ok (.return_, 1) := by decide +kernel
theorem dX5_hasRoom_0 : decode cX5_hasRoom 0 = .ok (.aload_n 0, 1) := by decide +kernel
theorem dX5_hasRoom_1 : decode cX5_hasRoom 1 = .ok (.getfield 39, 3) := by decide +kernel
theorem dX5_hasRoom_4 : decode cX5_hasRoom 4 = .ok (.bipush 6, 2) := by decide +kernel
theorem dX5_hasRoom_6 : decode cX5_hasRoom 6 = .ok (.if_icmp .ge 7, 3) := by decide +kernel
theorem dX5_hasRoom_9 : decode cX5_hasRoom 9 = .ok (.iconst 1, 1) := by decide +kernel
theorem dX5_hasRoom_10 : decode cX5_hasRoom 10 = .ok (.goto 4, 3) := by decide +kernel
theorem dX5_hasRoom_13 : decode cX5_hasRoom 13 = .ok (.iconst 0, 1) := by decide +kernel
theorem dX5_hasRoom_14 : decode cX5_hasRoom 14 = .ok (.ireturn, 1) := by decide +kernel
theorem dX5_add_0 : decode cX5_add 0 = .ok (.aload_n 0, 1) := by decide +kernel
theorem dX5_add_1 : decode cX5_add 1 = .ok (.invokevirtual 54, 3) := by decide +kernel
theorem dX5_add_4 : decode cX5_add 4 = .ok (.ifCond .ne 5, 3) := by decide +kernel
theorem dX5_add_7 : decode cX5_add 7 = .ok (.iconst (-1), 1) := by decide +kernel
theorem dX5_add_8 : decode cX5_add 8 = .ok (.ireturn, 1) := by decide +kernel
theorem dX5_add_9 : decode cX5_add 9 = .ok (.aload_n 0, 1) := by decide +kernel
theorem dX5_add_10 : decode cX5_add 10 = .ok (.getfield 11, 3) := by decide +kernel
theorem dX5_add_13 : decode cX5_add 13 = .ok (.aload_n 0, 1) := by decide +kernel
theorem dX5_add_14 : decode cX5_add 14 = .ok (.getfield 39, 3) := by decide +kernel
theorem dX5_add_17 : decode cX5_add 17 = .ok (.aaload, 1) := by decide +kernel
theorem dX5_add_18 : decode cX5_add 18 = .ok (.astore 4, 2) := by decide +kernel
theorem dX5_add_20 : decode cX5_add 20 = .ok (.aload 4, 2) := by decide +kernel
theorem dX5_add_22 : decode cX5_add 22 = .ok (.aload_n 0, 1) := by decide +kernel
theorem dX5_add_23 : decode cX5_add 23 = .ok (.getfield 42, 3) := by decide +kernel
theorem dX5_add_26 : decode cX5_add 26 = .ok (.putfield 58, 3) := by decide +kernel
theorem dX5_add_29 : decode cX5_add 29 = .ok (.aload 4, 2) := by decide +kernel
theorem dX5_add_31 : decode cX5_add 31 = .ok (.iload_n 1, 1) := by decide +kernel
theorem dX5_add_32 : decode cX5_add 32 = .ok (.putfield 61, 3) := by decide +kernel
theorem dX5_add_35 : decode cX5_add 35 = .ok (.aload 4, 2) := by decide +kernel
theorem dX5_add_37 : decode cX5_add 37 = .ok (.iload_n 3, 1) := by decide +kernel
theorem dX5_add_38 : decode cX5_add 38 = .ok (.putfield 64, 3) := by decide +kernel
theorem dX5_add_41 : decode cX5_add 41 = .ok (.aload 4, 2) := by decide +kernel
theorem dX5_add_43 : decode cX5_add 43 = .ok (.aload_n 0, 1) := by decide +kernel
theorem dX5_add_44 : decode cX5_add 44 = .ok (.getfield 45, 3) := by decide +kernel
theorem dX5_add_47 : decode cX5_add 47 = .ok (.iload_n 2, 1) := by decide +kernel
theorem dX5_add_48 : decode cX5_add 48 = .ok (.iadd, 1) := by decide +kernel
theorem dX5_add_49 : decode cX5_add 49 = .ok (.putfield 67, 3) := by decide +kernel
theorem dX5_add_52 : decode cX5_add 52 = .ok (.aload 4, 2) := by decide +kernel
theorem dX5_add_54 : decode cX5_add 54 = .ok (.iconst 0, 1) := by decide +kernel
theorem dX5_add_55 : decode cX5_add 55 = .ok (.putfield 70, 3) := by decide +kernel
theorem dX5_add_58 : decode cX5_add 58 = .ok (.aload_n 0, 1) := by decide +kernel
theorem dX5_add_59 : decode cX5_add 59 = .ok (.dup, 1) := by decide +kernel
theorem dX5_add_60 : decode cX5_add 60 = .ok (.getfield 39, 3) := by decide +kernel
theorem dX5_add_63 : decode cX5_add 63 = .ok (.iconst 1, 1) := by decide +kernel
theorem dX5_add_64 : decode cX5_add 64 = .ok (.iadd, 1) := by decide +kernel
theorem dX5_add_65 : decode cX5_add 65 = .ok (.putfield 39, 3) := by decide +kernel
theorem dX5_add_68 : decode cX5_add 68 = .ok (.aload_n 0, 1) := by decide +kernel
theorem dX5_add_69 : decode cX5_add 69 = .ok (.dup, 1) := by decide +kernel
theorem dX5_add_70 : decode cX5_add 70 = .ok (.getfield 42, 3) := by decide +kernel
theorem dX5_add_73 : decode cX5_add 73 = .ok (.iconst 1, 1) := by decide +kernel
theorem dX5_add_74 : decode cX5_add 74 = .ok (.iadd, 1) := by decide +kernel
theorem dX5_add_75 : decode cX5_add 75 = .ok (.putfield 42, 3) := by decide +kernel
theorem dX5_add_78 : decode cX5_add 78 = .ok (.aload 4, 2) := by decide +kernel
theorem dX5_add_80 : decode cX5_add 80 = .ok (.getfield 58, 3) := by decide +kernel
theorem dX5_add_83 : decode cX5_add 83 = .ok (.ireturn, 1) := by decide +kernel
theorem dX5_slotOf_0 : decode cX5_slotOf 0 = .ok (.iconst 0, 1) := by decide +kernel
theorem dX5_slotOf_1 : decode cX5_slotOf 1 = .ok (.istore_n 2, 1) := by decide +kernel
theorem dX5_slotOf_2 : decode cX5_slotOf 2 = .ok (.iload_n 2, 1) := by decide +kernel
theorem dX5_slotOf_3 : decode cX5_slotOf 3 = .ok (.aload_n 0, 1) := by decide +kernel
theorem dX5_slotOf_4 : decode cX5_slotOf 4 = .ok (.getfield 39, 3) := by decide +kernel
theorem dX5_slotOf_7 : decode cX5_slotOf 7 = .ok (.if_icmp .ge 24, 3) := by decide +kernel
theorem dX5_slotOf_10 : decode cX5_slotOf 10 = .ok (.aload_n 0, 1) := by decide +kernel
theorem dX5_slotOf_11 : decode cX5_slotOf 11 = .ok (.getfield 11, 3) := by decide +kernel
theorem dX5_slotOf_14 : decode cX5_slotOf 14 = .ok (.iload_n 2, 1) := by decide +kernel
theorem dX5_slotOf_15 : decode cX5_slotOf 15 = .ok (.aaload, 1) := by decide +kernel
theorem dX5_slotOf_16 : decode cX5_slotOf 16 = .ok (.getfield 58, 3) := by decide +kernel
theorem dX5_slotOf_19 : decode cX5_slotOf 19 = .ok (.iload_n 1, 1) := by decide +kernel
theorem dX5_slotOf_20 : decode cX5_slotOf 20 = .ok (.if_icmp .ne 5, 3) := by decide +kernel
theorem dX5_slotOf_23 : decode cX5_slotOf 23 = .ok (.iload_n 2, 1) := by decide +kernel
theorem dX5_slotOf_24 : decode cX5_slotOf 24 = .ok (.ireturn, 1) := by decide +kernel
theorem dX5_slotOf_25 : decode cX5_slotOf 25 = .ok (.iinc 2 1, 3) := by decide +kernel
theorem dX5_slotOf_28 : decode cX5_slotOf 28 = .ok (.goto (-26), 3) := by decide +kernel
theorem dX5_slotOf_31 : decode cX5_slotOf 31 = .ok (.iconst (-1), 1) := by decide +kernel
theorem dX5_slotOf_32 : decode cX5_slotOf 32 = .ok (.ireturn, 1) := by decide +kernel
theorem dX5_find_0 : decode cX5_find 0 = .ok (.aload_n 0, 1) := by decide +kernel
theorem dX5_find_1 : decode cX5_find 1 = .ok (.iload_n 1, 1) := by decide +kernel
theorem dX5_find_2 : decode cX5_find 2 = .ok (.invokevirtual 73, 3) := by decide +kernel
theorem dX5_find_5 : decode cX5_find 5 = .ok (.istore_n 2, 1) := by decide +kernel
theorem dX5_find_6 : decode cX5_find 6 = .ok (.iload_n 2, 1) := by decide +kernel
theorem dX5_find_7 : decode cX5_find 7 = .ok (.iconst (-1), 1) := by decide +kernel
theorem dX5_find_8 : decode cX5_find 8 = .ok (.if_icmp .ne 7, 3) := by decide +kernel
theorem dX5_find_11 : decode cX5_find 11 = .ok (.aconst_null, 1) := by decide +kernel
theorem dX5_find_12 : decode cX5_find 12 = .ok (.goto 9, 3) := by decide +kernel
theorem dX5_find_15 : decode cX5_find 15 = .ok (.aload_n 0, 1) := by decide +kernel
theorem dX5_find_16 : decode cX5_find 16 = .ok (.getfield 11, 3) := by decide +kernel
theorem dX5_find_19 : decode cX5_find 19 = .ok (.iload_n 2, 1) := by decide +kernel
theorem dX5_find_20 : decode cX5_find 20 = .ok (.aaload, 1) := by decide +kernel
theorem dX5_find_21 : decode cX5_find 21 = .ok (.areturn, 1) := by decide +kernel
theorem dX5_sell_0 : decode cX5_sell 0 = .ok (.aload_n 0, 1) := by decide +kernel
theorem dX5_sell_1 : decode cX5_sell 1 = .ok (.iload_n 1, 1) := by decide +kernel
theorem dX5_sell_2 : decode cX5_sell 2 = .ok (.invokevirtual 73, 3) := by decide +kernel
theorem dX5_sell_5 : decode cX5_sell 5 = .ok (.istore_n 2, 1) := by decide +kernel
theorem dX5_sell_6 : decode cX5_sell 6 = .ok (.iload_n 2, 1) := by decide +kernel
theorem dX5_sell_7 : decode cX5_sell 7 = .ok (.iconst (-1), 1) := by decide +kernel
theorem dX5_sell_8 : decode cX5_sell 8 = .ok (.if_icmp .ne 5, 3) := by decide +kernel
theorem dX5_sell_11 : decode cX5_sell 11 = .ok (.iconst 0, 1) := by decide +kernel
theorem dX5_sell_12 : decode cX5_sell 12 = .ok (.ireturn, 1) := by decide +kernel
theorem dX5_sell_13 : decode cX5_sell 13 = .ok (.aload_n 0, 1) := by decide +kernel
theorem dX5_sell_14 : decode cX5_sell 14 = .ok (.dup, 1) := by decide +kernel
theorem dX5_sell_15 : decode cX5_sell 15 = .ok (.getfield 25, 3) := by decide +kernel
theorem dX5_sell_18 : decode cX5_sell 18 = .ok (.aload_n 0, 1) := by decide +kernel
theorem dX5_sell_19 : decode cX5_sell 19 = .ok (.getfield 11, 3) := by decide +kernel
theorem dX5_sell_22 : decode cX5_sell 22 = .ok (.iload_n 2, 1) := by decide +kernel
theorem dX5_sell_23 : decode cX5_sell 23 = .ok (.aaload, 1) := by decide +kernel
theorem dX5_sell_24 : decode cX5_sell 24 = .ok (.getfield 64, 3) := by decide +kernel
theorem dX5_sell_27 : decode cX5_sell 27 = .ok (.iadd, 1) := by decide +kernel
theorem dX5_sell_28 : decode cX5_sell 28 = .ok (.putfield 25, 3) := by decide +kernel
theorem dX5_sell_31 : decode cX5_sell 31 = .ok (.aload_n 0, 1) := by decide +kernel
theorem dX5_sell_32 : decode cX5_sell 32 = .ok (.iload_n 2, 1) := by decide +kernel
theorem dX5_sell_33 : decode cX5_sell 33 = .ok (.invokevirtual 77, 3) := by decide +kernel
theorem dX5_sell_36 : decode cX5_sell 36 = .ok (.iconst 1, 1) := by decide +kernel
theorem dX5_sell_37 : decode cX5_sell 37 = .ok (.ireturn, 1) := by decide +kernel
theorem dX5_takeOut_0 : decode cX5_takeOut 0 = .ok (.aload_n 0, 1) := by decide +kernel
theorem dX5_takeOut_1 : decode cX5_takeOut 1 = .ok (.getfield 11, 3) := by decide +kernel
theorem dX5_takeOut_4 : decode cX5_takeOut 4 = .ok (.iload_n 1, 1) := by decide +kernel
theorem dX5_takeOut_5 : decode cX5_takeOut 5 = .ok (.aaload, 1) := by decide +kernel
theorem dX5_takeOut_6 : decode cX5_takeOut 6 = .ok (.astore_n 2, 1) := by decide +kernel
theorem dX5_takeOut_7 : decode cX5_takeOut 7 = .ok (.iload_n 1, 1) := by decide +kernel
theorem dX5_takeOut_8 : decode cX5_takeOut 8 = .ok (.istore_n 3, 1) := by decide +kernel
theorem dX5_takeOut_9 : decode cX5_takeOut 9 = .ok (.iload_n 3, 1) := by decide +kernel
theorem dX5_takeOut_10 : decode cX5_takeOut 10 = .ok (.aload_n 0, 1) := by decide +kernel
theorem dX5_takeOut_11 : decode cX5_takeOut 11 = .ok (.getfield 39, 3) := by decide +kernel
theorem dX5_takeOut_14 : decode cX5_takeOut 14 = .ok (.iconst 1, 1) := by decide +kernel
theorem dX5_takeOut_15 : decode cX5_takeOut 15 = .ok (.isub, 1) := by decide +kernel
theorem dX5_takeOut_16 : decode cX5_takeOut 16 = .ok (.if_icmp .ge 23, 3) := by decide +kernel
theorem dX5_takeOut_19 : decode cX5_takeOut 19 = .ok (.aload_n 0, 1) := by decide +kernel
theorem dX5_takeOut_20 : decode cX5_takeOut 20 = .ok (.getfield 11, 3) := by decide +kernel
theorem dX5_takeOut_23 : decode cX5_takeOut 23 = .ok (.iload_n 3, 1) := by decide +kernel
theorem dX5_takeOut_24 : decode cX5_takeOut 24 = .ok (.aload_n 0, 1) := by decide +kernel
theorem dX5_takeOut_25 : decode cX5_takeOut 25 = .ok (.getfield 11, 3) := by decide +kernel
theorem dX5_takeOut_28 : decode cX5_takeOut 28 = .ok (.iload_n 3, 1) := by decide +kernel
theorem dX5_takeOut_29 : decode cX5_takeOut 29 = .ok (.iconst 1, 1) := by decide +kernel
theorem dX5_takeOut_30 : decode cX5_takeOut 30 = .ok (.iadd, 1) := by decide +kernel
theorem dX5_takeOut_31 : decode cX5_takeOut 31 = .ok (.aaload, 1) := by decide +kernel
theorem dX5_takeOut_32 : decode cX5_takeOut 32 = .ok (.aastore, 1) := by decide +kernel
theorem dX5_takeOut_33 : decode cX5_takeOut 33 = .ok (.iinc 3 1, 3) := by decide +kernel
theorem dX5_takeOut_36 : decode cX5_takeOut 36 = .ok (.goto (-27), 3) := by decide +kernel
theorem dX5_takeOut_39 : decode cX5_takeOut 39 = .ok (.aload_n 0, 1) := by decide +kernel
theorem dX5_takeOut_40 : decode cX5_takeOut 40 = .ok (.getfield 11, 3) := by decide +kernel
theorem dX5_takeOut_43 : decode cX5_takeOut 43 = .ok (.aload_n 0, 1) := by decide +kernel
theorem dX5_takeOut_44 : decode cX5_takeOut 44 = .ok (.getfield 39, 3) := by decide +kernel
theorem dX5_takeOut_47 : decode cX5_takeOut 47 = .ok (.iconst 1, 1) := by decide +kernel
theorem dX5_takeOut_48 : decode cX5_takeOut 48 = .ok (.isub, 1) := by decide +kernel
theorem dX5_takeOut_49 : decode cX5_takeOut 49 = .ok (.aload_n 2, 1) := by decide +kernel
theorem dX5_takeOut_50 : decode cX5_takeOut 50 = .ok (.aastore, 1) := by decide +kernel
theorem dX5_takeOut_51 : decode cX5_takeOut 51 = .ok (.aload_n 0, 1) := by decide +kernel
theorem dX5_takeOut_52 : decode cX5_takeOut 52 = .ok (.dup, 1) := by decide +kernel
theorem dX5_takeOut_53 : decode cX5_takeOut 53 = .ok (.getfield 39, 3) := by decide +kernel
theorem dX5_takeOut_56 : decode cX5_takeOut 56 = .ok (.iconst 1, 1) := by decide +kernel
theorem dX5_takeOut_57 : decode cX5_takeOut 57 = .ok (.isub, 1) := by decide +kernel
theorem dX5_takeOut_58 : decode cX5_takeOut 58 = .ok (.putfield 39, 3) := by decide +kernel
theorem dX5_takeOut_61 : decode cX5_takeOut 61 = .ok (.return_, 1) := by decide +kernel
theorem dX5_canBuy_0 : decode cX5_canBuy 0 = .ok (.iconst 3, 1) := by decide +kernel
theorem dX5_canBuy_1 : decode cX5_canBuy 1 = .ok (.iload_n 1, 1) := by decide +kernel
theorem dX5_canBuy_2 : decode cX5_canBuy 2 = .ok (.imul, 1) := by decide +kernel
theorem dX5_canBuy_3 : decode cX5_canBuy 3 = .ok (.aload_n 0, 1) := by decide +kernel
theorem dX5_canBuy_4 : decode cX5_canBuy 4 = .ok (.getfield 25, 3) := by decide +kernel
theorem dX5_canBuy_7 : decode cX5_canBuy 7 = .ok (.if_icmp .gt 7, 3) := by decide +kernel
theorem dX5_canBuy_10 : decode cX5_canBuy 10 = .ok (.iconst 1, 1) := by decide +kernel
theorem dX5_canBuy_11 : decode cX5_canBuy 11 = .ok (.goto 4, 3) := by decide +kernel
theorem dX5_canBuy_14 : decode cX5_canBuy 14 = .ok (.iconst 0, 1) := by decide +kernel
theorem dX5_canBuy_15 : decode cX5_canBuy 15 = .ok (.ireturn, 1) := by decide +kernel
theorem dX5_buy_0 : decode cX5_buy 0 = .ok (.aload_n 0, 1) := by decide +kernel
theorem dX5_buy_1 : decode cX5_buy 1 = .ok (.dup, 1) := by decide +kernel
theorem dX5_buy_2 : decode cX5_buy 2 = .ok (.getfield 25, 3) := by decide +kernel
theorem dX5_buy_5 : decode cX5_buy 5 = .ok (.iconst 3, 1) := by decide +kernel
theorem dX5_buy_6 : decode cX5_buy 6 = .ok (.iload_n 2, 1) := by decide +kernel
theorem dX5_buy_7 : decode cX5_buy 7 = .ok (.imul, 1) := by decide +kernel
theorem dX5_buy_8 : decode cX5_buy 8 = .ok (.isub, 1) := by decide +kernel
theorem dX5_buy_9 : decode cX5_buy 9 = .ok (.putfield 25, 3) := by decide +kernel
theorem dX5_buy_12 : decode cX5_buy 12 = .ok (.aload_n 1, 1) := by decide +kernel
theorem dX5_buy_13 : decode cX5_buy 13 = .ok (.dup, 1) := by decide +kernel
theorem dX5_buy_14 : decode cX5_buy 14 = .ok (.getfield 64, 3) := by decide +kernel
theorem dX5_buy_17 : decode cX5_buy 17 = .ok (.iload_n 2, 1) := by decide +kernel
theorem dX5_buy_18 : decode cX5_buy 18 = .ok (.iadd, 1) := by decide +kernel
theorem dX5_buy_19 : decode cX5_buy 19 = .ok (.putfield 64, 3) := by decide +kernel
theorem dX5_buy_22 : decode cX5_buy 22 = .ok (.return_, 1) := by decide +kernel
theorem dX5_canSweep_0 : decode cX5_canSweep 0 = .ok (.aload_n 0, 1) := by decide +kernel
theorem dX5_canSweep_1 : decode cX5_canSweep 1 = .ok (.getfield 25, 3) := by decide +kernel
theorem dX5_canSweep_4 : decode cX5_canSweep 4 = .ok (.aload_n 0, 1) := by decide +kernel
theorem dX5_canSweep_5 : decode cX5_canSweep 5 = .ok (.getfield 21, 3) := by decide +kernel
theorem dX5_canSweep_8 : decode cX5_canSweep 8 = .ok (.iload_n 1, 1) := by decide +kernel
theorem dX5_canSweep_9 : decode cX5_canSweep 9 = .ok (.iload_n 2, 1) := by decide +kernel
theorem dX5_canSweep_10 : decode cX5_canSweep 10 = .ok (.aload_n 0, 1) := by decide +kernel
theorem dX5_canSweep_11 : decode cX5_canSweep 11 = .ok (.getfield 29, 3) := by decide +kernel
theorem dX5_canSweep_14 : decode cX5_canSweep 14 = .ok (.invokevirtual 81, 3) := by decide +kernel
theorem dX5_canSweep_17 : decode cX5_canSweep 17 = .ok (.iadd, 1) := by decide +kernel
theorem dX5_canSweep_18 : decode cX5_canSweep 18 = .ok (.ifCond .lt 7, 3) := by decide +kernel
theorem dX5_canSweep_21 : decode cX5_canSweep 21 = .ok (.iconst 1, 1) := by decide +kernel
theorem dX5_canSweep_22 : decode cX5_canSweep 22 = .ok (.goto 4, 3) := by decide +kernel
theorem dX5_canSweep_25 : decode cX5_canSweep 25 = .ok (.iconst 0, 1) := by decide +kernel
theorem dX5_canSweep_26 : decode cX5_canSweep 26 = .ok (.ireturn, 1) := by decide +kernel
theorem dX5_sweep_0 : decode cX5_sweep 0 = .ok (.aload_n 0, 1) := by decide +kernel
theorem dX5_sweep_1 : decode cX5_sweep 1 = .ok (.dup, 1) := by decide +kernel
theorem dX5_sweep_2 : decode cX5_sweep 2 = .ok (.getfield 25, 3) := by decide +kernel
theorem dX5_sweep_5 : decode cX5_sweep 5 = .ok (.aload_n 0, 1) := by decide +kernel
theorem dX5_sweep_6 : decode cX5_sweep 6 = .ok (.getfield 21, 3) := by decide +kernel
theorem dX5_sweep_9 : decode cX5_sweep 9 = .ok (.iload_n 1, 1) := by decide +kernel
theorem dX5_sweep_10 : decode cX5_sweep 10 = .ok (.iload_n 2, 1) := by decide +kernel
theorem dX5_sweep_11 : decode cX5_sweep 11 = .ok (.aload_n 0, 1) := by decide +kernel
theorem dX5_sweep_12 : decode cX5_sweep 12 = .ok (.getfield 29, 3) := by decide +kernel
theorem dX5_sweep_15 : decode cX5_sweep 15 = .ok (.invokevirtual 81, 3) := by decide +kernel
theorem dX5_sweep_18 : decode cX5_sweep 18 = .ok (.iadd, 1) := by decide +kernel
theorem dX5_sweep_19 : decode cX5_sweep 19 = .ok (.putfield 25, 3) := by decide +kernel
theorem dX5_sweep_22 : decode cX5_sweep 22 = .ok (.aload_n 0, 1) := by decide +kernel
theorem dX5_sweep_23 : decode cX5_sweep 23 = .ok (.getfield 21, 3) := by decide +kernel
theorem dX5_sweep_26 : decode cX5_sweep 26 = .ok (.iload_n 1, 1) := by decide +kernel
theorem dX5_sweep_27 : decode cX5_sweep 27 = .ok (.iload_n 2, 1) := by decide +kernel
theorem dX5_sweep_28 : decode cX5_sweep 28 = .ok (.invokevirtual 85, 3) := by decide +kernel
theorem dX5_sweep_31 : decode cX5_sweep 31 = .ok (.ireturn, 1) := by decide +kernel
theorem dX5_letPass_0 : decode cX5_letPass 0 = .ok (.aload_n 0, 1) := by decide +kernel
theorem dX5_letPass_1 : decode cX5_letPass 1 = .ok (.getfield 48, 3) := by decide +kernel
theorem dX5_letPass_4 : decode cX5_letPass 4 = .ok (.istore_n 2, 1) := by decide +kernel
theorem dX5_letPass_5 : decode cX5_letPass 5 = .ok (.iconst 0, 1) := by decide +kernel
theorem dX5_letPass_6 : decode cX5_letPass 6 = .ok (.istore_n 3, 1) := by decide +kernel
theorem dX5_letPass_7 : decode cX5_letPass 7 = .ok (.iload_n 3, 1) := by decide +kernel
theorem dX5_letPass_8 : decode cX5_letPass 8 = .ok (.iload_n 1, 1) := by decide +kernel
theorem dX5_letPass_9 : decode cX5_letPass 9 = .ok (.if_icmp .ge 13, 3) := by decide +kernel
theorem dX5_letPass_12 : decode cX5_letPass 12 = .ok (.aload_n 0, 1) := by decide +kernel
theorem dX5_letPass_13 : decode cX5_letPass 13 = .ok (.invokevirtual 89, 3) := by decide +kernel
theorem dX5_letPass_16 : decode cX5_letPass 16 = .ok (.iinc 3 1, 3) := by decide +kernel
theorem dX5_letPass_19 : decode cX5_letPass 19 = .ok (.goto (-12), 3) := by decide +kernel
theorem dX5_letPass_22 : decode cX5_letPass 22 = .ok (.aload_n 0, 1) := by decide +kernel
theorem dX5_letPass_23 : decode cX5_letPass 23 = .ok (.getfield 48, 3) := by decide +kernel
theorem dX5_letPass_26 : decode cX5_letPass 26 = .ok (.iload_n 2, 1) := by decide +kernel
theorem dX5_letPass_27 : decode cX5_letPass 27 = .ok (.isub, 1) := by decide +kernel
theorem dX5_letPass_28 : decode cX5_letPass 28 = .ok (.ireturn, 1) := by decide +kernel
theorem dX5_letOneDayPass_0 : decode cX5_letOneDayPass 0 = .ok (.aload_n 0, 1) := by decide +kernel
theorem dX5_letOneDayPass_1 : decode cX5_letOneDayPass 1 = .ok (.dup, 1) := by decide +kernel
theorem dX5_letOneDayPass_2 : decode cX5_letOneDayPass 2 = .ok (.getfield 45, 3) := by decide +kernel
theorem dX5_letOneDayPass_5 : decode cX5_letOneDayPass 5 = .ok (.iconst 1, 1) := by decide +kernel
theorem dX5_letOneDayPass_6 : decode cX5_letOneDayPass 6 = .ok (.iadd, 1) := by decide +kernel
theorem dX5_letOneDayPass_7 : decode cX5_letOneDayPass 7 = .ok (.putfield 45, 3) := by decide +kernel
theorem dX5_letOneDayPass_10 : decode cX5_letOneDayPass 10 = .ok (.iconst 0, 1) := by decide +kernel
theorem dX5_letOneDayPass_11 : decode cX5_letOneDayPass 11 = .ok (.istore_n 1, 1) := by decide +kernel
theorem dX5_letOneDayPass_12 : decode cX5_letOneDayPass 12 = .ok (.iload_n 1, 1) := by decide +kernel
theorem dX5_letOneDayPass_13 : decode cX5_letOneDayPass 13 = .ok (.aload_n 0, 1) := by decide +kernel
theorem dX5_letOneDayPass_14 : decode cX5_letOneDayPass 14 = .ok (.getfield 39, 3) := by decide +kernel
theorem dX5_letOneDayPass_17 : decode cX5_letOneDayPass 17 = .ok (.if_icmp .ge 35, 3) := by decide +kernel
theorem dX5_letOneDayPass_20 : decode cX5_letOneDayPass 20 = .ok (.aload_n 0, 1) := by decide +kernel
theorem dX5_letOneDayPass_21 : decode cX5_letOneDayPass 21 = .ok (.getfield 11, 3) := by decide +kernel
theorem dX5_letOneDayPass_24 : decode cX5_letOneDayPass 24 = .ok (.iload_n 1, 1) := by decide +kernel
theorem dX5_letOneDayPass_25 : decode cX5_letOneDayPass 25 = .ok (.aaload, 1) := by decide +kernel
theorem dX5_letOneDayPass_26 : decode cX5_letOneDayPass 26 = .ok (.getfield 67, 3) := by decide +kernel
theorem dX5_letOneDayPass_29 : decode cX5_letOneDayPass 29 = .ok (.aload_n 0, 1) := by decide +kernel
theorem dX5_letOneDayPass_30 : decode cX5_letOneDayPass 30 = .ok (.getfield 45, 3) := by decide +kernel
theorem dX5_letOneDayPass_33 : decode cX5_letOneDayPass 33 = .ok (.if_icmp .ne 13, 3) := by decide +kernel
theorem dX5_letOneDayPass_36 : decode cX5_letOneDayPass 36 = .ok (.aload_n 0, 1) := by decide +kernel
theorem dX5_letOneDayPass_37 : decode cX5_letOneDayPass 37 = .ok (.aload_n 0, 1) := by decide +kernel
theorem dX5_letOneDayPass_38 : decode cX5_letOneDayPass 38 = .ok (.getfield 11, 3) := by decide +kernel
theorem dX5_letOneDayPass_41 : decode cX5_letOneDayPass 41 = .ok (.iload_n 1, 1) := by decide +kernel
theorem dX5_letOneDayPass_42 : decode cX5_letOneDayPass 42 = .ok (.aaload, 1) := by decide +kernel
theorem dX5_letOneDayPass_43 : decode cX5_letOneDayPass 43 = .ok (.invokevirtual 92, 3) := by decide +kernel
theorem dX5_letOneDayPass_46 : decode cX5_letOneDayPass 46 = .ok (.iinc 1 1, 3) := by decide +kernel
theorem dX5_letOneDayPass_49 : decode cX5_letOneDayPass 49 = .ok (.goto (-37), 3) := by decide +kernel
theorem dX5_letOneDayPass_52 : decode cX5_letOneDayPass 52 = .ok (.aload_n 0, 1) := by decide +kernel
theorem dX5_letOneDayPass_53 : decode cX5_letOneDayPass 53 = .ok (.invokevirtual 95, 3) := by decide +kernel
theorem dX5_letOneDayPass_56 : decode cX5_letOneDayPass 56 = .ok (.return_, 1) := by decide +kernel
theorem dX5_letCometPass_0 : decode cX5_letCometPass 0 = .ok (.aload_n 0, 1) := by decide +kernel
theorem dX5_letCometPass_1 : decode cX5_letCometPass 1 = .ok (.getfield 21, 3) := by decide +kernel
theorem dX5_letCometPass_4 : decode cX5_letCometPass 4 = .ok (.aload_n 0, 1) := by decide +kernel
theorem dX5_letCometPass_5 : decode cX5_letCometPass 5 = .ok (.getfield 45, 3) := by decide +kernel
theorem dX5_letCometPass_8 : decode cX5_letCometPass 8 = .ok (.aload_n 1, 1) := by decide +kernel
theorem dX5_letCometPass_9 : decode cX5_letCometPass 9 = .ok (.getfield 64, 3) := by decide +kernel
theorem dX5_letCometPass_12 : decode cX5_letCometPass 12 = .ok (.invokevirtual 98, 3) := by decide +kernel
theorem dX5_letCometPass_15 : decode cX5_letCometPass 15 = .ok (.aload_n 1, 1) := by decide +kernel
theorem dX5_letCometPass_16 : decode cX5_letCometPass 16 = .ok (.dup, 1) := by decide +kernel
theorem dX5_letCometPass_17 : decode cX5_letCometPass 17 = .ok (.getfield 64, 3) := by decide +kernel
theorem dX5_letCometPass_20 : decode cX5_letCometPass 20 = .ok (.iconst 1, 1) := by decide +kernel
theorem dX5_letCometPass_21 : decode cX5_letCometPass 21 = .ok (.isub, 1) := by decide +kernel
theorem dX5_letCometPass_22 : decode cX5_letCometPass 22 = .ok (.putfield 64, 3) := by decide +kernel
theorem dX5_letCometPass_25 : decode cX5_letCometPass 25 = .ok (.aload_n 1, 1) := by decide +kernel
theorem dX5_letCometPass_26 : decode cX5_letCometPass 26 = .ok (.dup, 1) := by decide +kernel
theorem dX5_letCometPass_27 : decode cX5_letCometPass 27 = .ok (.getfield 67, 3) := by decide +kernel
theorem dX5_letCometPass_30 : decode cX5_letCometPass 30 = .ok (.aload_n 1, 1) := by decide +kernel
theorem dX5_letCometPass_31 : decode cX5_letCometPass 31 = .ok (.getfield 61, 3) := by decide +kernel
theorem dX5_letCometPass_34 : decode cX5_letCometPass 34 = .ok (.iadd, 1) := by decide +kernel
theorem dX5_letCometPass_35 : decode cX5_letCometPass 35 = .ok (.putfield 67, 3) := by decide +kernel
theorem dX5_letCometPass_38 : decode cX5_letCometPass 38 = .ok (.aload_n 1, 1) := by decide +kernel
theorem dX5_letCometPass_39 : decode cX5_letCometPass 39 = .ok (.dup, 1) := by decide +kernel
theorem dX5_letCometPass_40 : decode cX5_letCometPass 40 = .ok (.getfield 70, 3) := by decide +kernel
theorem dX5_letCometPass_43 : decode cX5_letCometPass 43 = .ok (.iconst 1, 1) := by decide +kernel
theorem dX5_letCometPass_44 : decode cX5_letCometPass 44 = .ok (.iadd, 1) := by decide +kernel
theorem dX5_letCometPass_45 : decode cX5_letCometPass 45 = .ok (.putfield 70, 3) := by decide +kernel
theorem dX5_letCometPass_48 : decode cX5_letCometPass 48 = .ok (.aload_n 0, 1) := by decide +kernel
theorem dX5_letCometPass_49 : decode cX5_letCometPass 49 = .ok (.dup, 1) := by decide +kernel
theorem dX5_letCometPass_50 : decode cX5_letCometPass 50 = .ok (.getfield 48, 3) := by decide +kernel
theorem dX5_letCometPass_53 : decode cX5_letCometPass 53 = .ok (.iconst 1, 1) := by decide +kernel
theorem dX5_letCometPass_54 : decode cX5_letCometPass 54 = .ok (.iadd, 1) := by decide +kernel
theorem dX5_letCometPass_55 : decode cX5_letCometPass 55 = .ok (.putfield 48, 3) := by decide +kernel
theorem dX5_letCometPass_58 : decode cX5_letCometPass 58 = .ok (.return_, 1) := by decide +kernel
theorem dX5_takeOutBurntComets_0 : decode cX5_takeOutBurntComets 0 = .ok (.aload_n 0, 1) := by decide +kernel
theorem dX5_takeOutBurntComets_1 : decode cX5_takeOutBurntComets 1 = .ok (.getfield 39, 3) := by decide +kernel
theorem dX5_takeOutBurntComets_4 : decode cX5_takeOutBurntComets 4 = .ok (.iconst 1, 1) := by decide +kernel
theorem dX5_takeOutBurntComets_5 : decode cX5_takeOutBurntComets 5 = .ok (.isub, 1) := by decide +kernel
theorem dX5_takeOutBurntComets_6 : decode cX5_takeOutBurntComets 6 = .ok (.istore_n 1, 1) := by decide +kernel
theorem dX5_takeOutBurntComets_7 : decode cX5_takeOutBurntComets 7 = .ok (.iload_n 1, 1) := by decide +kernel
theorem dX5_takeOutBurntComets_8 : decode cX5_takeOutBurntComets 8 = .ok (.ifCond .lt 36, 3) := by decide +kernel
theorem dX5_takeOutBurntComets_11 : decode cX5_takeOutBurntComets 11 = .ok (.aload_n 0, 1) := by decide +kernel
theorem dX5_takeOutBurntComets_12 : decode cX5_takeOutBurntComets 12 = .ok (.getfield 11, 3) := by decide +kernel
theorem dX5_takeOutBurntComets_15 : decode cX5_takeOutBurntComets 15 = .ok (.iload_n 1, 1) := by decide +kernel
theorem dX5_takeOutBurntComets_16 : decode cX5_takeOutBurntComets 16 = .ok (.aaload, 1) := by decide +kernel
theorem dX5_takeOutBurntComets_17 : decode cX5_takeOutBurntComets 17 = .ok (.getfield 64, 3) := by decide +kernel
theorem dX5_takeOutBurntComets_20 : decode cX5_takeOutBurntComets 20 = .ok (.ifCond .ne 18, 3) := by decide +kernel
theorem dX5_takeOutBurntComets_23 : decode cX5_takeOutBurntComets 23 = .ok (.aload_n 0, 1) := by decide +kernel
theorem dX5_takeOutBurntComets_24 : decode cX5_takeOutBurntComets 24 = .ok (.iload_n 1, 1) := by decide +kernel
theorem dX5_takeOutBurntComets_25 : decode cX5_takeOutBurntComets 25 = .ok (.invokevirtual 77, 3) := by decide +kernel
theorem dX5_takeOutBurntComets_28 : decode cX5_takeOutBurntComets 28 = .ok (.aload_n 0, 1) := by decide +kernel
theorem dX5_takeOutBurntComets_29 : decode cX5_takeOutBurntComets 29 = .ok (.dup, 1) := by decide +kernel
theorem dX5_takeOutBurntComets_30 : decode cX5_takeOutBurntComets 30 = .ok (.getfield 51, 3) := by decide +kernel
theorem dX5_takeOutBurntComets_33 : decode cX5_takeOutBurntComets 33 = .ok (.iconst 1, 1) := by decide +kernel
theorem dX5_takeOutBurntComets_34 : decode cX5_takeOutBurntComets 34 = .ok (.iadd, 1) := by decide +kernel
theorem dX5_takeOutBurntComets_35 : decode cX5_takeOutBurntComets 35 = .ok (.putfield 51, 3) := by decide +kernel
theorem dX5_takeOutBurntComets_38 : decode cX5_takeOutBurntComets 38 = .ok (.iinc 1 (-1), 3) := by decide +kernel
theorem dX5_takeOutBurntComets_41 : decode cX5_takeOutBurntComets 41 = .ok (.goto (-34), 3) := by decide +kernel
theorem dX5_takeOutBurntComets_44 : decode cX5_takeOutBurntComets 44 = .ok (.return_, 1) := by decide +kernel
theorem dX5_passesAhead_0 : decode cX5_passesAhead 0 = .ok (.iconst 0, 1) := by decide +kernel
theorem dX5_passesAhead_1 : decode cX5_passesAhead 1 = .ok (.istore_n 2, 1) := by decide +kernel
theorem dX5_passesAhead_2 : decode cX5_passesAhead 2 = .ok (.iconst 0, 1) := by decide +kernel
theorem dX5_passesAhead_3 : decode cX5_passesAhead 3 = .ok (.istore_n 3, 1) := by decide +kernel
theorem dX5_passesAhead_4 : decode cX5_passesAhead 4 = .ok (.iload_n 3, 1) := by decide +kernel
theorem dX5_passesAhead_5 : decode cX5_passesAhead 5 = .ok (.aload_n 0, 1) := by decide +kernel
theorem dX5_passesAhead_6 : decode cX5_passesAhead 6 = .ok (.getfield 39, 3) := by decide +kernel
theorem dX5_passesAhead_9 : decode cX5_passesAhead 9 = .ok (.if_icmp .ge 27, 3) := by decide +kernel
theorem dX5_passesAhead_12 : decode cX5_passesAhead 12 = .ok (.iload_n 2, 1) := by decide +kernel
theorem dX5_passesAhead_13 : decode cX5_passesAhead 13 = .ok (.aload_n 0, 1) := by decide +kernel
theorem dX5_passesAhead_14 : decode cX5_passesAhead 14 = .ok (.getfield 11, 3) := by decide +kernel
theorem dX5_passesAhead_17 : decode cX5_passesAhead 17 = .ok (.iload_n 3, 1) := by decide +kernel
theorem dX5_passesAhead_18 : decode cX5_passesAhead 18 = .ok (.aaload, 1) := by decide +kernel
theorem dX5_passesAhead_19 : decode cX5_passesAhead 19 = .ok (.aload_n 0, 1) := by decide +kernel
theorem dX5_passesAhead_20 : decode cX5_passesAhead 20 = .ok (.getfield 45, 3) := by decide +kernel
theorem dX5_passesAhead_23 : decode cX5_passesAhead 23 = .ok (.iload_n 1, 1) := by decide +kernel
theorem dX5_passesAhead_24 : decode cX5_passesAhead 24 = .ok (.iadd, 1) := by decide +kernel
theorem dX5_passesAhead_25 : decode cX5_passesAhead 25 = .ok (.invokevirtual 102, 3) := by decide +kernel
theorem dX5_passesAhead_28 : decode cX5_passesAhead 28 = .ok (.iadd, 1) := by decide +kernel
theorem dX5_passesAhead_29 : decode cX5_passesAhead 29 = .ok (.istore_n 2, 1) := by decide +kernel
theorem dX5_passesAhead_30 : decode cX5_passesAhead 30 = .ok (.iinc 3 1, 3) := by decide +kernel
theorem dX5_passesAhead_33 : decode cX5_passesAhead 33 = .ok (.goto (-29), 3) := by decide +kernel
theorem dX5_passesAhead_36 : decode cX5_passesAhead 36 = .ok (.iload_n 2, 1) := by decide +kernel
theorem dX5_passesAhead_37 : decode cX5_passesAhead 37 = .ok (.ireturn, 1) := by decide +kernel
theorem dX5_idAtRank_0 : decode cX5_idAtRank 0 = .ok (.iconst 0, 1) := by decide +kernel
theorem dX5_idAtRank_1 : decode cX5_idAtRank 1 = .ok (.istore_n 2, 1) := by decide +kernel
theorem dX5_idAtRank_2 : decode cX5_idAtRank 2 = .ok (.iload_n 2, 1) := by decide +kernel
theorem dX5_idAtRank_3 : decode cX5_idAtRank 3 = .ok (.aload_n 0, 1) := by decide +kernel
theorem dX5_idAtRank_4 : decode cX5_idAtRank 4 = .ok (.getfield 39, 3) := by decide +kernel
theorem dX5_idAtRank_7 : decode cX5_idAtRank 7 = .ok (.if_icmp .ge 33, 3) := by decide +kernel
theorem dX5_idAtRank_10 : decode cX5_idAtRank 10 = .ok (.aload_n 0, 1) := by decide +kernel
theorem dX5_idAtRank_11 : decode cX5_idAtRank 11 = .ok (.aload_n 0, 1) := by decide +kernel
theorem dX5_idAtRank_12 : decode cX5_idAtRank 12 = .ok (.getfield 11, 3) := by decide +kernel
theorem dX5_idAtRank_15 : decode cX5_idAtRank 15 = .ok (.iload_n 2, 1) := by decide +kernel
theorem dX5_idAtRank_16 : decode cX5_idAtRank 16 = .ok (.aaload, 1) := by decide +kernel
theorem dX5_idAtRank_17 : decode cX5_idAtRank 17 = .ok (.invokevirtual 105, 3) := by decide +kernel
theorem dX5_idAtRank_20 : decode cX5_idAtRank 20 = .ok (.iload_n 1, 1) := by decide +kernel
theorem dX5_idAtRank_21 : decode cX5_idAtRank 21 = .ok (.if_icmp .ne 13, 3) := by decide +kernel
theorem dX5_idAtRank_24 : decode cX5_idAtRank 24 = .ok (.aload_n 0, 1) := by decide +kernel
theorem dX5_idAtRank_25 : decode cX5_idAtRank 25 = .ok (.getfield 11, 3) := by decide +kernel
theorem dX5_idAtRank_28 : decode cX5_idAtRank 28 = .ok (.iload_n 2, 1) := by decide +kernel
theorem dX5_idAtRank_29 : decode cX5_idAtRank 29 = .ok (.aaload, 1) := by decide +kernel
theorem dX5_idAtRank_30 : decode cX5_idAtRank 30 = .ok (.getfield 58, 3) := by decide +kernel
theorem dX5_idAtRank_33 : decode cX5_idAtRank 33 = .ok (.ireturn, 1) := by decide +kernel
theorem dX5_idAtRank_34 : decode cX5_idAtRank 34 = .ok (.iinc 2 1, 3) := by decide +kernel
theorem dX5_idAtRank_37 : decode cX5_idAtRank 37 = .ok (.goto (-35), 3) := by decide +kernel
theorem dX5_idAtRank_40 : decode cX5_idAtRank 40 = .ok (.iconst (-1), 1) := by decide +kernel
theorem dX5_idAtRank_41 : decode cX5_idAtRank 41 = .ok (.ireturn, 1) := by decide +kernel
theorem dX5_rankOf_0 : decode cX5_rankOf 0 = .ok (.iconst 0, 1) := by decide +kernel
theorem dX5_rankOf_1 : decode cX5_rankOf 1 = .ok (.istore_n 2, 1) := by decide +kernel
theorem dX5_rankOf_2 : decode cX5_rankOf 2 = .ok (.iconst 0, 1) := by decide +kernel
theorem dX5_rankOf_3 : decode cX5_rankOf 3 = .ok (.istore_n 3, 1) := by decide +kernel
theorem dX5_rankOf_4 : decode cX5_rankOf 4 = .ok (.iload_n 3, 1) := by decide +kernel
theorem dX5_rankOf_5 : decode cX5_rankOf 5 = .ok (.aload_n 0, 1) := by decide +kernel
theorem dX5_rankOf_6 : decode cX5_rankOf 6 = .ok (.getfield 39, 3) := by decide +kernel
theorem dX5_rankOf_9 : decode cX5_rankOf 9 = .ok (.if_icmp .ge 25, 3) := by decide +kernel
theorem dX5_rankOf_12 : decode cX5_rankOf 12 = .ok (.aload_n 0, 1) := by decide +kernel
theorem dX5_rankOf_13 : decode cX5_rankOf 13 = .ok (.getfield 11, 3) := by decide +kernel
theorem dX5_rankOf_16 : decode cX5_rankOf 16 = .ok (.iload_n 3, 1) := by decide +kernel
theorem dX5_rankOf_17 : decode cX5_rankOf 17 = .ok (.aaload, 1) := by decide +kernel
theorem dX5_rankOf_18 : decode cX5_rankOf 18 = .ok (.aload_n 1, 1) := by decide +kernel
theorem dX5_rankOf_19 : decode cX5_rankOf 19 = .ok (.invokevirtual 109, 3) := by decide +kernel
theorem dX5_rankOf_22 : decode cX5_rankOf 22 = .ok (.ifCond .eq 6, 3) := by decide +kernel
theorem dX5_rankOf_25 : decode cX5_rankOf 25 = .ok (.iinc 2 1, 3) := by decide +kernel
theorem dX5_rankOf_28 : decode cX5_rankOf 28 = .ok (.iinc 3 1, 3) := by decide +kernel
theorem dX5_rankOf_31 : decode cX5_rankOf 31 = .ok (.goto (-27), 3) := by decide +kernel
theorem dX5_rankOf_34 : decode cX5_rankOf 34 = .ok (.iload_n 2, 1) := by decide +kernel
theorem dX5_rankOf_35 : decode cX5_rankOf 35 = .ok (.ireturn, 1) := by decide +kernel
theorem dX5_allPassesAreAhead_0 : decode cX5_allPassesAreAhead 0 = .ok (.iconst 0, 1) := by decide +kernel
theorem dX5_allPassesAreAhead_1 : decode cX5_allPassesAreAhead 1 = .ok (.istore_n 1, 1) := by decide +kernel
theorem dX5_allPassesAreAhead_2 : decode cX5_allPassesAreAhead 2 = .ok (.iload_n 1, 1) := by decide +kernel
theorem dX5_allPassesAreAhead_3 : decode cX5_allPassesAreAhead 3 = .ok (.aload_n 0, 1) := by decide +kernel
theorem dX5_allPassesAreAhead_4 : decode cX5_allPassesAreAhead 4 = .ok (.getfield 39, 3) := by decide +kernel
theorem dX5_allPassesAreAhead_7 : decode cX5_allPassesAreAhead 7 = .ok (.if_icmp .ge 27, 3) := by decide +kernel
theorem dX5_allPassesAreAhead_10 : decode cX5_allPassesAreAhead 10 = .ok (.aload_n 0, 1) := by decide +kernel
theorem dX5_allPassesAreAhead_11 : decode cX5_allPassesAreAhead 11 = .ok (.getfield 11, 3) := by decide +kernel
theorem dX5_allPassesAreAhead_14 : decode cX5_allPassesAreAhead 14 = .ok (.iload_n 1, 1) := by decide +kernel
theorem dX5_allPassesAreAhead_15 : decode cX5_allPassesAreAhead 15 = .ok (.aaload, 1) := by decide +kernel
theorem dX5_allPassesAreAhead_16 : decode cX5_allPassesAreAhead 16 = .ok (.getfield 67, 3) := by decide +kernel
theorem dX5_allPassesAreAhead_19 : decode cX5_allPassesAreAhead 19 = .ok (.aload_n 0, 1) := by decide +kernel
theorem dX5_allPassesAreAhead_20 : decode cX5_allPassesAreAhead 20 = .ok (.getfield 45, 3) := by decide +kernel
theorem dX5_allPassesAreAhead_23 : decode cX5_allPassesAreAhead 23 = .ok (.if_icmp .gt 5, 3) := by decide +kernel
theorem dX5_allPassesAreAhead_26 : decode cX5_allPassesAreAhead 26 = .ok (.iconst 0, 1) := by decide +kernel
theorem dX5_allPassesAreAhead_27 : decode cX5_allPassesAreAhead 27 = .ok (.ireturn, 1) := by decide +kernel
theorem dX5_allPassesAreAhead_28 : decode cX5_allPassesAreAhead 28 = .ok (.iinc 1 1, 3) := by decide +kernel
theorem dX5_allPassesAreAhead_31 : decode cX5_allPassesAreAhead 31 = .ok (.goto (-29), 3) := by decide +kernel
theorem dX5_allPassesAreAhead_34 : decode cX5_allPassesAreAhead 34 = .ok (.iconst 1, 1) := by decide +kernel
theorem dX5_allPassesAreAhead_35 : decode cX5_allPassesAreAhead 35 = .ok (.ireturn, 1) := by decide +kernel
theorem dX6_init_0 : decode cX6_init 0 = .ok (.aload_n 0, 1) := by decide +kernel
theorem dX6_init_1 : decode cX6_init 1 = .ok (.invokespecial 3, 3) := by decide +kernel
theorem dX6_init_4 : decode cX6_init 4 = .ok (.aload_n 0, 1) := by decide +kernel
theorem dX6_init_5 : decode cX6_init 5 = .ok (.bipush 120, 2) := by decide +kernel
theorem dX6_init_7 : decode cX6_init 7 = .ok (.newarray .int, 2) := by decide +kernel
theorem dX6_init_9 : decode cX6_init 9 = .ok (.putfield 11, 3) := by decide +kernel
theorem dX6_init_12 : decode cX6_init 12 = .ok (.aload_n 0, 1) := by decide +kernel
theorem dX6_init_13 : decode cX6_init 13 = .ok (.bipush 120, 2) := by decide +kernel
theorem dX6_init_15 : decode cX6_init 15 = .ok (.newarray .int, 2) := by decide +kernel
theorem dX6_init_17 : decode cX6_init 17 = .ok (.putfield 15, 3) := by decide +kernel
theorem dX6_init_20 : decode cX6_init 20 = .ok (.aload_n 0, 1) := by decide +kernel
theorem dX6_init_21 : decode cX6_init 21 = .ok (.bipush 120, 2) := by decide +kernel
theorem dX6_init_23 : decode cX6_init 23 = .ok (.newarray .int, 2) := by decide +kernel
theorem dX6_init_25 : decode cX6_init 25 = .ok (.putfield 18, 3) := by decide +kernel
theorem dX6_init_28 : decode cX6_init 28 = .ok (.aload_n 0, 1) := by decide +kernel
theorem dX6_init_29 : decode cX6_init 29 = .ok (.bipush 121, 2) := by decide +kernel
theorem dX6_init_31 : decode cX6_init 31 = .ok (.newarray .int, 2) := by decide +kernel
theorem dX6_init_33 : decode cX6_init 33 = .ok (.putfield 21, 3) := by decide +kernel
theorem dX6_init_36 : decode cX6_init 36 = .ok (.aload_n 0, 1) := by decide +kernel
theorem dX6_init_37 : decode cX6_init 37 = .ok (.bipush 62, 2) := by decide +kernel
theorem dX6_init_39 : decode cX6_init 39 = .ok (.newarray .int, 2) := by decide +kernel
theorem dX6_init_41 : decode cX6_init 41 = .ok (.putfield 24, 3) := by decide +kernel
theorem dX6_init_44 : decode cX6_init 44 = .ok (.aload_n 0, 1) := by decide +kernel
theorem dX6_init_45 : decode cX6_init 45 = .ok (.bipush 62, 2) := by decide +kernel
theorem dX6_init_47 : decode cX6_init 47 = .ok (.newarray .int, 2) := by decide +kernel
theorem dX6_init_49 : decode cX6_init 49 = .ok (.putfield 27, 3) := by decide +kernel
theorem dX6_init_52 : decode cX6_init 52 = .ok (.return_, 1) := by decide +kernel
theorem dX6_aim_0 : decode cX6_aim 0 = .ok (.aload_n 0, 1) := by decide +kernel
theorem dX6_aim_1 : decode cX6_aim 1 = .ok (.iconst 0, 1) := by decide +kernel
theorem dX6_aim_2 : decode cX6_aim 2 = .ok (.putfield 30, 3) := by decide +kernel
theorem dX6_aim_5 : decode cX6_aim 5 = .ok (.iconst 0, 1) := by decide +kernel
theorem dX6_aim_6 : decode cX6_aim 6 = .ok (.istore_n 3, 1) := by decide +kernel
theorem dX6_aim_7 : decode cX6_aim 7 = .ok (.iload_n 3, 1) := by decide +kernel
theorem dX6_aim_8 : decode cX6_aim 8 = .ok (.aload_n 1, 1) := by decide +kernel
theorem dX6_aim_9 : decode cX6_aim 9 = .ok (.getfield 34, 3) := by decide +kernel
theorem dX6_aim_12 : decode cX6_aim 12 = .ok (.if_icmp .ge 91, 3) := by decide +kernel
theorem dX6_aim_15 : decode cX6_aim 15 = .ok (.aload_n 1, 1) := by decide +kernel
theorem dX6_aim_16 : decode cX6_aim 16 = .ok (.getfield 37, 3) := by decide +kernel
theorem dX6_aim_19 : decode cX6_aim 19 = .ok (.iload_n 3, 1) := by decide +kernel
theorem dX6_aim_20 : decode cX6_aim 20 = .ok (.aaload, 1) := by decide +kernel
theorem dX6_aim_21 : decode cX6_aim 21 = .ok (.astore 4, 2) := by decide +kernel
theorem dX6_aim_23 : decode cX6_aim 23 = .ok (.aload 4, 2) := by decide +kernel
theorem dX6_aim_25 : decode cX6_aim 25 = .ok (.getfield 41, 3) := by decide +kernel
theorem dX6_aim_28 : decode cX6_aim 28 = .ok (.aload_n 1, 1) := by decide +kernel
theorem dX6_aim_29 : decode cX6_aim 29 = .ok (.getfield 46, 3) := by decide +kernel
theorem dX6_aim_32 : decode cX6_aim 32 = .ok (.isub, 1) := by decide +kernel
theorem dX6_aim_33 : decode cX6_aim 33 = .ok (.istore 5, 2) := by decide +kernel
theorem dX6_aim_35 : decode cX6_aim 35 = .ok (.aload 4, 2) := by decide +kernel
theorem dX6_aim_37 : decode cX6_aim 37 = .ok (.getfield 49, 3) := by decide +kernel
theorem dX6_aim_40 : decode cX6_aim 40 = .ok (.istore 6, 2) := by decide +kernel
theorem dX6_aim_42 : decode cX6_aim 42 = .ok (.iload 6, 2) := by decide +kernel
theorem dX6_aim_44 : decode cX6_aim 44 = .ok (.ifCond .le 53, 3) := by decide +kernel
theorem dX6_aim_47 : decode cX6_aim 47 = .ok (.iload 5, 2) := by decide +kernel
theorem dX6_aim_49 : decode cX6_aim 49 = .ok (.iload_n 2, 1) := by decide +kernel
theorem dX6_aim_50 : decode cX6_aim 50 = .ok (.if_icmp .gt 47, 3) := by decide +kernel
theorem dX6_aim_53 : decode cX6_aim 53 = .ok (.iload 5, 2) := by decide +kernel
theorem dX6_aim_55 : decode cX6_aim 55 = .ok (.iload 6, 2) := by decide +kernel
theorem dX6_aim_57 : decode cX6_aim 57 = .ok (.invokestatic 52, 3) := by decide +kernel
theorem dX6_aim_60 : decode cX6_aim 60 = .ok (.iadd, 1) := by decide +kernel
theorem dX6_aim_61 : decode cX6_aim 61 = .ok (.iconst 1, 1) := by decide +kernel
theorem dX6_aim_62 : decode cX6_aim 62 = .ok (.isub, 1) := by decide +kernel
theorem dX6_aim_63 : decode cX6_aim 63 = .ok (.istore 7, 2) := by decide +kernel
theorem dX6_aim_65 : decode cX6_aim 65 = .ok (.iload 7, 2) := by decide +kernel
theorem dX6_aim_67 : decode cX6_aim 67 = .ok (.iload_n 2, 1) := by decide +kernel
theorem dX6_aim_68 : decode cX6_aim 68 = .ok (.if_icmp .gt 13, 3) := by decide +kernel
theorem dX6_aim_71 : decode cX6_aim 71 = .ok (.aload_n 0, 1) := by decide +kernel
theorem dX6_aim_72 : decode cX6_aim 72 = .ok (.iload 5, 2) := by decide +kernel
theorem dX6_aim_74 : decode cX6_aim 74 = .ok (.iload 7, 2) := by decide +kernel
theorem dX6_aim_76 : decode cX6_aim 76 = .ok (.iload 6, 2) := by decide +kernel
theorem dX6_aim_78 : decode cX6_aim 78 = .ok (.invokevirtual 56, 3) := by decide +kernel
theorem dX6_aim_81 : decode cX6_aim 81 = .ok (.iload 5, 2) := by decide +kernel
theorem dX6_aim_83 : decode cX6_aim 83 = .ok (.aload 4, 2) := by decide +kernel
theorem dX6_aim_85 : decode cX6_aim 85 = .ok (.getfield 60, 3) := by decide +kernel
theorem dX6_aim_88 : decode cX6_aim 88 = .ok (.iadd, 1) := by decide +kernel
theorem dX6_aim_89 : decode cX6_aim 89 = .ok (.istore 5, 2) := by decide +kernel
theorem dX6_aim_91 : decode cX6_aim 91 = .ok (.iinc 6 (-1), 3) := by decide +kernel
theorem dX6_aim_94 : decode cX6_aim 94 = .ok (.goto (-52), 3) := by decide +kernel
theorem dX6_aim_97 : decode cX6_aim 97 = .ok (.iinc 3 1, 3) := by decide +kernel
theorem dX6_aim_100 : decode cX6_aim 100 = .ok (.goto (-93), 3) := by decide +kernel
theorem dX6_aim_103 : decode cX6_aim 103 = .ok (.return_, 1) := by decide +kernel
theorem dX6_insert_0 : decode cX6_insert 0 = .ok (.aload_n 0, 1) := by decide +kernel
theorem dX6_insert_1 : decode cX6_insert 1 = .ok (.getfield 30, 3) := by decide +kernel
theorem dX6_insert_4 : decode cX6_insert 4 = .ok (.bipush 120, 2) := by decide +kernel
theorem dX6_insert_6 : decode cX6_insert 6 = .ok (.if_icmp .lt 4, 3) := by decide +kernel
theorem dX6_insert_9 : decode cX6_insert 9 = .ok (.return_, 1) := by decide +kernel
theorem dX6_insert_10 : decode cX6_insert 10 = .ok (.aload_n 0, 1) := by decide +kernel
theorem dX6_insert_11 : decode cX6_insert 11 = .ok (.getfield 30, 3) := by decide +kernel
theorem dX6_insert_14 : decode cX6_insert 14 = .ok (.istore 4, 2) := by decide +kernel
theorem dX6_insert_16 : decode cX6_insert 16 = .ok (.iload 4, 2) := by decide +kernel
theorem dX6_insert_18 : decode cX6_insert 18 = .ok (.ifCond .le 70, 3) := by decide +kernel
theorem dX6_insert_21 : decode cX6_insert 21 = .ok (.aload_n 0, 1) := by decide +kernel
theorem dX6_insert_22 : decode cX6_insert 22 = .ok (.getfield 15, 3) := by decide +kernel
theorem dX6_insert_25 : decode cX6_insert 25 = .ok (.iload 4, 2) := by decide +kernel
theorem dX6_insert_27 : decode cX6_insert 27 = .ok (.iconst 1, 1) := by decide +kernel
theorem dX6_insert_28 : decode cX6_insert 28 = .ok (.isub, 1) := by decide +kernel
theorem dX6_insert_29 : decode cX6_insert 29 = .ok (.iaload, 1) := by decide +kernel
theorem dX6_insert_30 : decode cX6_insert 30 = .ok (.iload_n 2, 1) := by decide +kernel
theorem dX6_insert_31 : decode cX6_insert 31 = .ok (.if_icmp .le 57, 3) := by decide +kernel
theorem dX6_insert_34 : decode cX6_insert 34 = .ok (.aload_n 0, 1) := by decide +kernel
theorem dX6_insert_35 : decode cX6_insert 35 = .ok (.getfield 11, 3) := by decide +kernel
theorem dX6_insert_38 : decode cX6_insert 38 = .ok (.iload 4, 2) := by decide +kernel
theorem dX6_insert_40 : decode cX6_insert 40 = .ok (.aload_n 0, 1) := by decide +kernel
theorem dX6_insert_41 : decode cX6_insert 41 = .ok (.getfield 11, 3) := by decide +kernel
theorem dX6_insert_44 : decode cX6_insert 44 = .ok (.iload 4, 2) := by decide +kernel
theorem dX6_insert_46 : decode cX6_insert 46 = .ok (.iconst 1, 1) := by decide +kernel
theorem dX6_insert_47 : decode cX6_insert 47 = .ok (.isub, 1) := by decide +kernel
theorem dX6_insert_48 : decode cX6_insert 48 = .ok (.iaload, 1) := by decide +kernel
theorem dX6_insert_49 : decode cX6_insert 49 = .ok (.iastore, 1) := by decide +kernel
theorem dX6_insert_50 : decode cX6_insert 50 = .ok (.aload_n 0, 1) := by decide +kernel
theorem dX6_insert_51 : decode cX6_insert 51 = .ok (.getfield 15, 3) := by decide +kernel
theorem dX6_insert_54 : decode cX6_insert 54 = .ok (.iload 4, 2) := by decide +kernel
theorem dX6_insert_56 : decode cX6_insert 56 = .ok (.aload_n 0, 1) := by decide +kernel
theorem dX6_insert_57 : decode cX6_insert 57 = .ok (.getfield 15, 3) := by decide +kernel
theorem dX6_insert_60 : decode cX6_insert 60 = .ok (.iload 4, 2) := by decide +kernel
theorem dX6_insert_62 : decode cX6_insert 62 = .ok (.iconst 1, 1) := by decide +kernel
theorem dX6_insert_63 : decode cX6_insert 63 = .ok (.isub, 1) := by decide +kernel
theorem dX6_insert_64 : decode cX6_insert 64 = .ok (.iaload, 1) := by decide +kernel
theorem dX6_insert_65 : decode cX6_insert 65 = .ok (.iastore, 1) := by decide +kernel
theorem dX6_insert_66 : decode cX6_insert 66 = .ok (.aload_n 0, 1) := by decide +kernel
theorem dX6_insert_67 : decode cX6_insert 67 = .ok (.getfield 18, 3) := by decide +kernel
theorem dX6_insert_70 : decode cX6_insert 70 = .ok (.iload 4, 2) := by decide +kernel
theorem dX6_insert_72 : decode cX6_insert 72 = .ok (.aload_n 0, 1) := by decide +kernel
theorem dX6_insert_73 : decode cX6_insert 73 = .ok (.getfield 18, 3) := by decide +kernel
theorem dX6_insert_76 : decode cX6_insert 76 = .ok (.iload 4, 2) := by decide +kernel
theorem dX6_insert_78 : decode cX6_insert 78 = .ok (.iconst 1, 1) := by decide +kernel
theorem dX6_insert_79 : decode cX6_insert 79 = .ok (.isub, 1) := by decide +kernel
theorem dX6_insert_80 : decode cX6_insert 80 = .ok (.iaload, 1) := by decide +kernel
theorem dX6_insert_81 : decode cX6_insert 81 = .ok (.iastore, 1) := by decide +kernel
theorem dX6_insert_82 : decode cX6_insert 82 = .ok (.iinc 4 (-1), 3) := by decide +kernel
theorem dX6_insert_85 : decode cX6_insert 85 = .ok (.goto (-69), 3) := by decide +kernel
theorem dX6_insert_88 : decode cX6_insert 88 = .ok (.aload_n 0, 1) := by decide +kernel
theorem dX6_insert_89 : decode cX6_insert 89 = .ok (.getfield 11, 3) := by decide +kernel
theorem dX6_insert_92 : decode cX6_insert 92 = .ok (.iload 4, 2) := by decide +kernel
theorem dX6_insert_94 : decode cX6_insert 94 = .ok (.iload_n 1, 1) := by decide +kernel
theorem dX6_insert_95 : decode cX6_insert 95 = .ok (.iastore, 1) := by decide +kernel
theorem dX6_insert_96 : decode cX6_insert 96 = .ok (.aload_n 0, 1) := by decide +kernel
theorem dX6_insert_97 : decode cX6_insert 97 = .ok (.getfield 15, 3) := by decide +kernel
theorem dX6_insert_100 : decode cX6_insert 100 = .ok (.iload 4, 2) := by decide +kernel
theorem dX6_insert_102 : decode cX6_insert 102 = .ok (.iload_n 2, 1) := by decide +kernel
theorem dX6_insert_103 : decode cX6_insert 103 = .ok (.iastore, 1) := by decide +kernel
theorem dX6_insert_104 : decode cX6_insert 104 = .ok (.aload_n 0, 1) := by decide +kernel
theorem dX6_insert_105 : decode cX6_insert 105 = .ok (.getfield 18, 3) := by decide +kernel
theorem dX6_insert_108 : decode cX6_insert 108 = .ok (.iload 4, 2) := by decide +kernel
theorem dX6_insert_110 : decode cX6_insert 110 = .ok (.iload_n 3, 1) := by decide +kernel
theorem dX6_insert_111 : decode cX6_insert 111 = .ok (.iastore, 1) := by decide +kernel
theorem dX6_insert_112 : decode cX6_insert 112 = .ok (.aload_n 0, 1) := by decide +kernel
theorem dX6_insert_113 : decode cX6_insert 113 = .ok (.dup, 1) := by decide +kernel
theorem dX6_insert_114 : decode cX6_insert 114 = .ok (.getfield 30, 3) := by decide +kernel
theorem dX6_insert_117 : decode cX6_insert 117 = .ok (.iconst 1, 1) := by decide +kernel
theorem dX6_insert_118 : decode cX6_insert 118 = .ok (.iadd, 1) := by decide +kernel
theorem dX6_insert_119 : decode cX6_insert 119 = .ok (.putfield 30, 3) := by decide +kernel
theorem dX6_insert_122 : decode cX6_insert 122 = .ok (.return_, 1) := by decide +kernel
theorem dX6_worthByPasses_0 : decode cX6_worthByPasses 0 = .ok (.aload_n 0, 1) := by decide +kernel
theorem dX6_worthByPasses_1 : decode cX6_worthByPasses 1 = .ok (.getfield 21, 3) := by decide +kernel
theorem dX6_worthByPasses_4 : decode cX6_worthByPasses 4 = .ok (.iconst 0, 1) := by decide +kernel
theorem dX6_worthByPasses_5 : decode cX6_worthByPasses 5 = .ok (.iconst 0, 1) := by decide +kernel
theorem dX6_worthByPasses_6 : decode cX6_worthByPasses 6 = .ok (.iastore, 1) := by decide +kernel
theorem dX6_worthByPasses_7 : decode cX6_worthByPasses 7 = .ok (.iconst 0, 1) := by decide +kernel
theorem dX6_worthByPasses_8 : decode cX6_worthByPasses 8 = .ok (.istore_n 1, 1) := by decide +kernel
theorem dX6_worthByPasses_9 : decode cX6_worthByPasses 9 = .ok (.iload_n 1, 1) := by decide +kernel
theorem dX6_worthByPasses_10 : decode cX6_worthByPasses 10 = .ok (.aload_n 0, 1) := by decide +kernel
theorem dX6_worthByPasses_11 : decode cX6_worthByPasses 11 = .ok (.getfield 30, 3) := by decide +kernel
theorem dX6_worthByPasses_14 : decode cX6_worthByPasses 14 = .ok (.if_icmp .ge 51, 3) := by decide +kernel
theorem dX6_worthByPasses_17 : decode cX6_worthByPasses 17 = .ok (.aload_n 0, 1) := by decide +kernel
theorem dX6_worthByPasses_18 : decode cX6_worthByPasses 18 = .ok (.getfield 18, 3) := by decide +kernel
theorem dX6_worthByPasses_21 : decode cX6_worthByPasses 21 = .ok (.iload_n 1, 1) := by decide +kernel
theorem dX6_worthByPasses_22 : decode cX6_worthByPasses 22 = .ok (.iaload, 1) := by decide +kernel
theorem dX6_worthByPasses_23 : decode cX6_worthByPasses 23 = .ok (.aload_n 0, 1) := by decide +kernel
theorem dX6_worthByPasses_24 : decode cX6_worthByPasses 24 = .ok (.getfield 21, 3) := by decide +kernel
theorem dX6_worthByPasses_27 : decode cX6_worthByPasses 27 = .ok (.aload_n 0, 1) := by decide +kernel
theorem dX6_worthByPasses_28 : decode cX6_worthByPasses 28 = .ok (.aload_n 0, 1) := by decide +kernel
theorem dX6_worthByPasses_29 : decode cX6_worthByPasses 29 = .ok (.getfield 11, 3) := by decide +kernel
theorem dX6_worthByPasses_32 : decode cX6_worthByPasses 32 = .ok (.iload_n 1, 1) := by decide +kernel
theorem dX6_worthByPasses_33 : decode cX6_worthByPasses 33 = .ok (.iaload, 1) := by decide +kernel
theorem dX6_worthByPasses_34 : decode cX6_worthByPasses 34 = .ok (.iload_n 1, 1) := by decide +kernel
theorem dX6_worthByPasses_35 : decode cX6_worthByPasses 35 = .ok (.invokevirtual 63, 3) := by decide +kernel
theorem dX6_worthByPasses_38 : decode cX6_worthByPasses 38 = .ok (.iaload, 1) := by decide +kernel
theorem dX6_worthByPasses_39 : decode cX6_worthByPasses 39 = .ok (.iadd, 1) := by decide +kernel
theorem dX6_worthByPasses_40 : decode cX6_worthByPasses 40 = .ok (.istore_n 2, 1) := by decide +kernel
theorem dX6_worthByPasses_41 : decode cX6_worthByPasses 41 = .ok (.aload_n 0, 1) := by decide +kernel
theorem dX6_worthByPasses_42 : decode cX6_worthByPasses 42 = .ok (.getfield 21, 3) := by decide +kernel
theorem dX6_worthByPasses_45 : decode cX6_worthByPasses 45 = .ok (.iload_n 1, 1) := by decide +kernel
theorem dX6_worthByPasses_46 : decode cX6_worthByPasses 46 = .ok (.iconst 1, 1) := by decide +kernel
theorem dX6_worthByPasses_47 : decode cX6_worthByPasses 47 = .ok (.iadd, 1) := by decide +kernel
theorem dX6_worthByPasses_48 : decode cX6_worthByPasses 48 = .ok (.aload_n 0, 1) := by decide +kernel
theorem dX6_worthByPasses_49 : decode cX6_worthByPasses 49 = .ok (.getfield 21, 3) := by decide +kernel
theorem dX6_worthByPasses_52 : decode cX6_worthByPasses 52 = .ok (.iload_n 1, 1) := by decide +kernel
theorem dX6_worthByPasses_53 : decode cX6_worthByPasses 53 = .ok (.iaload, 1) := by decide +kernel
theorem dX6_worthByPasses_54 : decode cX6_worthByPasses 54 = .ok (.iload_n 2, 1) := by decide +kernel
theorem dX6_worthByPasses_55 : decode cX6_worthByPasses 55 = .ok (.invokestatic 67, 3) := by decide +kernel
theorem dX6_worthByPasses_58 : decode cX6_worthByPasses 58 = .ok (.iastore, 1) := by decide +kernel
theorem dX6_worthByPasses_59 : decode cX6_worthByPasses 59 = .ok (.iinc 1 1, 3) := by decide +kernel
theorem dX6_worthByPasses_62 : decode cX6_worthByPasses 62 = .ok (.goto (-53), 3) := by decide +kernel
theorem dX6_worthByPasses_65 : decode cX6_worthByPasses 65 = .ok (.aload_n 0, 1) := by decide +kernel
theorem dX6_worthByPasses_66 : decode cX6_worthByPasses 66 = .ok (.getfield 21, 3) := by decide +kernel
theorem dX6_worthByPasses_69 : decode cX6_worthByPasses 69 = .ok (.aload_n 0, 1) := by decide +kernel
theorem dX6_worthByPasses_70 : decode cX6_worthByPasses 70 = .ok (.getfield 30, 3) := by decide +kernel
theorem dX6_worthByPasses_73 : decode cX6_worthByPasses 73 = .ok (.iaload, 1) := by decide +kernel
theorem dX6_worthByPasses_74 : decode cX6_worthByPasses 74 = .ok (.ireturn, 1) := by decide +kernel
theorem dX6_endedBefore_0 : decode cX6_endedBefore 0 = .ok (.iload_n 2, 1) := by decide +kernel
theorem dX6_endedBefore_1 : decode cX6_endedBefore 1 = .ok (.istore_n 3, 1) := by decide +kernel
theorem dX6_endedBefore_2 : decode cX6_endedBefore 2 = .ok (.iload_n 3, 1) := by decide +kernel
theorem dX6_endedBefore_3 : decode cX6_endedBefore 3 = .ok (.ifCond .le 21, 3) := by decide +kernel
theorem dX6_endedBefore_6 : decode cX6_endedBefore 6 = .ok (.aload_n 0, 1) := by decide +kernel
theorem dX6_endedBefore_7 : decode cX6_endedBefore 7 = .ok (.getfield 15, 3) := by decide +kernel
theorem dX6_endedBefore_10 : decode cX6_endedBefore 10 = .ok (.iload_n 3, 1) := by decide +kernel
theorem dX6_endedBefore_11 : decode cX6_endedBefore 11 = .ok (.iconst 1, 1) := by decide +kernel
theorem dX6_endedBefore_12 : decode cX6_endedBefore 12 = .ok (.isub, 1) := by decide +kernel
theorem dX6_endedBefore_13 : decode cX6_endedBefore 13 = .ok (.iaload, 1) := by decide +kernel
theorem dX6_endedBefore_14 : decode cX6_endedBefore 14 = .ok (.iload_n 1, 1) := by decide +kernel
theorem dX6_endedBefore_15 : decode cX6_endedBefore 15 = .ok (.if_icmp .lt 9, 3) := by decide +kernel
theorem dX6_endedBefore_18 : decode cX6_endedBefore 18 = .ok (.iinc 3 (-1), 3) := by decide +kernel
theorem dX6_endedBefore_21 : decode cX6_endedBefore 21 = .ok (.goto (-19), 3) := by decide +kernel
theorem dX6_endedBefore_24 : decode cX6_endedBefore 24 = .ok (.iload_n 3, 1) := by decide +kernel
theorem dX6_endedBefore_25 : decode cX6_endedBefore 25 = .ok (.ireturn, 1) := by decide +kernel
theorem dX6_planByDays_0 : decode cX6_planByDays 0 = .ok (.aload_n 0, 1) := by decide +kernel
theorem dX6_planByDays_1 : decode cX6_planByDays 1 = .ok (.getfield 24, 3) := by decide +kernel
theorem dX6_planByDays_4 : decode cX6_planByDays 4 = .ok (.iload_n 1, 1) := by decide +kernel
theorem dX6_planByDays_5 : decode cX6_planByDays 5 = .ok (.iconst 1, 1) := by decide +kernel
theorem dX6_planByDays_6 : decode cX6_planByDays 6 = .ok (.iadd, 1) := by decide +kernel
theorem dX6_planByDays_7 : decode cX6_planByDays 7 = .ok (.iconst 0, 1) := by decide +kernel
theorem dX6_planByDays_8 : decode cX6_planByDays 8 = .ok (.iastore, 1) := by decide +kernel
theorem dX6_planByDays_9 : decode cX6_planByDays 9 = .ok (.aload_n 0, 1) := by decide +kernel
theorem dX6_planByDays_10 : decode cX6_planByDays 10 = .ok (.getfield 27, 3) := by decide +kernel
theorem dX6_planByDays_13 : decode cX6_planByDays 13 = .ok (.iload_n 1, 1) := by decide +kernel
theorem dX6_planByDays_14 : decode cX6_planByDays 14 = .ok (.iconst 1, 1) := by decide +kernel
theorem dX6_planByDays_15 : decode cX6_planByDays 15 = .ok (.iadd, 1) := by decide +kernel
theorem dX6_planByDays_16 : decode cX6_planByDays 16 = .ok (.iconst 0, 1) := by decide +kernel
theorem dX6_planByDays_17 : decode cX6_planByDays 17 = .ok (.iastore, 1) := by decide +kernel
theorem dX6_planByDays_18 : decode cX6_planByDays 18 = .ok (.iload_n 1, 1) := by decide +kernel
