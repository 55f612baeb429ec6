theorem dX0_init_0 : decode cX0_init 0 = .ok (.aload_n 0, 1) := by decide +kernel
theorem dX0_init_1 : decode cX0_init 1 = .ok (.invokespecial 3, 3) := by decide +kernel
theorem dX0_init_4 : decode cX0_init 4 = .ok (.return_, 1) := by decide +kernel
theorem dX0_copyFrom_0 : decode cX0_copyFrom 0 = .ok (.aload_n 0, 1) := by decide +kernel
theorem dX0_copyFrom_1 : decode cX0_copyFrom 1 = .ok (.aload_n 1, 1) := by decide +kernel
theorem dX0_copyFrom_2 : decode cX0_copyFrom 2 = .ok (.getfield 9, 3) := by decide +kernel
theorem dX0_copyFrom_5 : decode cX0_copyFrom 5 = .ok (.putfield 9, 3) := by decide +kernel
theorem dX0_copyFrom_8 : decode cX0_copyFrom 8 = .ok (.aload_n 0, 1) := by decide +kernel
theorem dX0_copyFrom_9 : decode cX0_copyFrom 9 = .ok (.aload_n 1, 1) := by decide +kernel
theorem dX0_copyFrom_10 : decode cX0_copyFrom 10 = .ok (.getfield 15, 3) := by decide +kernel
theorem dX0_copyFrom_13 : decode cX0_copyFrom 13 = .ok (.putfield 15, 3) := by decide +kernel
theorem dX0_copyFrom_16 : decode cX0_copyFrom 16 = .ok (.aload_n 0, 1) := by decide +kernel
theorem dX0_copyFrom_17 : decode cX0_copyFrom 17 = .ok (.aload_n 1, 1) := by decide +kernel
theorem dX0_copyFrom_18 : decode cX0_copyFrom 18 = .ok (.getfield 18, 3) := by decide +kernel
theorem dX0_copyFrom_21 : decode cX0_copyFrom 21 = .ok (.putfield 18, 3) := by decide +kernel
theorem dX0_copyFrom_24 : decode cX0_copyFrom 24 = .ok (.aload_n 0, 1) := by decide +kernel
theorem dX0_copyFrom_25 : decode cX0_copyFrom 25 = .ok (.aload_n 1, 1) := by decide +kernel
theorem dX0_copyFrom_26 : decode cX0_copyFrom 26 = .ok (.getfield 21, 3) := by decide +kernel
theorem dX0_copyFrom_29 : decode cX0_copyFrom 29 = .ok (.putfield 21, 3) := by decide +kernel
theorem dX0_copyFrom_32 : decode cX0_copyFrom 32 = .ok (.aload_n 0, 1) := by decide +kernel
theorem dX0_copyFrom_33 : decode cX0_copyFrom 33 = .ok (.aload_n 1, 1) := by decide +kernel
theorem dX0_copyFrom_34 : decode cX0_copyFrom 34 = .ok (.getfield 24, 3) := by decide +kernel
theorem dX0_copyFrom_37 : decode cX0_copyFrom 37 = .ok (.putfield 24, 3) := by decide +kernel
theorem dX0_copyFrom_40 : decode cX0_copyFrom 40 = .ok (.return_, 1) := by decide +kernel
theorem dX0_canTake_0 : decode cX0_canTake 0 = .ok (.aload_n 0, 1) := by decide +kernel
theorem dX0_canTake_1 : decode cX0_canTake 1 = .ok (.getfield 18, 3) := by decide +kernel
theorem dX0_canTake_4 : decode cX0_canTake 4 = .ok (.iload_n 1, 1) := by decide +kernel
theorem dX0_canTake_5 : decode cX0_canTake 5 = .ok (.iadd, 1) := by decide +kernel
theorem dX0_canTake_6 : decode cX0_canTake 6 = .ok (.bipush 20, 2) := by decide +kernel
theorem dX0_canTake_8 : decode cX0_canTake 8 = .ok (.if_icmp .gt 7, 3) := by decide +kernel
theorem dX0_canTake_11 : decode cX0_canTake 11 = .ok (.iconst 1, 1) := by decide +kernel
theorem dX0_canTake_12 : decode cX0_canTake 12 = .ok (.goto 4, 3) := by decide +kernel
theorem dX0_canTake_15 : decode cX0_canTake 15 = .ok (.iconst 0, 1) := by decide +kernel
theorem dX0_canTake_16 : decode cX0_canTake 16 = .ok (.ireturn, 1) := by decide +kernel
theorem dX0_passesUpTo_0 : decode cX0_passesUpTo 0 = .ok (.iload_n 1, 1) := by decide +kernel
theorem dX0_passesUpTo_1 : decode cX0_passesUpTo 1 = .ok (.aload_n 0, 1) := by decide +kernel
theorem dX0_passesUpTo_2 : decode cX0_passesUpTo 2 = .ok (.getfield 21, 3) := by decide +kernel
theorem dX0_passesUpTo_5 : decode cX0_passesUpTo 5 = .ok (.if_icmp .lt 11, 3) := by decide +kernel
theorem dX0_passesUpTo_8 : decode cX0_passesUpTo 8 = .ok (.aload_n 0, 1) := by decide +kernel
theorem dX0_passesUpTo_9 : decode cX0_passesUpTo 9 = .ok (.getfield 15, 3) := by decide +kernel
theorem dX0_passesUpTo_12 : decode cX0_passesUpTo 12 = .ok (.iconst 1, 1) := by decide +kernel
theorem dX0_passesUpTo_13 : decode cX0_passesUpTo 13 = .ok (.if_icmp .ge 5, 3) := by decide +kernel
theorem dX0_passesUpTo_16 : decode cX0_passesUpTo 16 = .ok (.iconst 0, 1) := by decide +kernel
theorem dX0_passesUpTo_17 : decode cX0_passesUpTo 17 = .ok (.ireturn, 1) := by decide +kernel
theorem dX0_passesUpTo_18 : decode cX0_passesUpTo 18 = .ok (.aload_n 0, 1) := by decide +kernel
theorem dX0_passesUpTo_19 : decode cX0_passesUpTo 19 = .ok (.getfield 18, 3) := by decide +kernel
theorem dX0_passesUpTo_22 : decode cX0_passesUpTo 22 = .ok (.iconst 1, 1) := by decide +kernel
theorem dX0_passesUpTo_23 : decode cX0_passesUpTo 23 = .ok (.iload_n 1, 1) := by decide +kernel
theorem dX0_passesUpTo_24 : decode cX0_passesUpTo 24 = .ok (.aload_n 0, 1) := by decide +kernel
theorem dX0_passesUpTo_25 : decode cX0_passesUpTo 25 = .ok (.getfield 21, 3) := by decide +kernel
theorem dX0_passesUpTo_28 : decode cX0_passesUpTo 28 = .ok (.isub, 1) := by decide +kernel
theorem dX0_passesUpTo_29 : decode cX0_passesUpTo 29 = .ok (.aload_n 0, 1) := by decide +kernel
theorem dX0_passesUpTo_30 : decode cX0_passesUpTo 30 = .ok (.getfield 15, 3) := by decide +kernel
theorem dX0_passesUpTo_33 : decode cX0_passesUpTo 33 = .ok (.idiv, 1) := by decide +kernel
theorem dX0_passesUpTo_34 : decode cX0_passesUpTo 34 = .ok (.iadd, 1) := by decide +kernel
theorem dX0_passesUpTo_35 : decode cX0_passesUpTo 35 = .ok (.invokestatic 27, 3) := by decide +kernel
theorem dX0_passesUpTo_38 : decode cX0_passesUpTo 38 = .ok (.ireturn, 1) := by decide +kernel
theorem dX0_ranksBefore_0 : decode cX0_ranksBefore 0 = .ok (.aload_n 0, 1) := by decide +kernel
theorem dX0_ranksBefore_1 : decode cX0_ranksBefore 1 = .ok (.getfield 18, 3) := by decide +kernel
theorem dX0_ranksBefore_4 : decode cX0_ranksBefore 4 = .ok (.aload_n 1, 1) := by decide +kernel
theorem dX0_ranksBefore_5 : decode cX0_ranksBefore 5 = .ok (.getfield 18, 3) := by decide +kernel
theorem dX0_ranksBefore_8 : decode cX0_ranksBefore 8 = .ok (.if_icmp .eq 20, 3) := by decide +kernel
theorem dX0_ranksBefore_11 : decode cX0_ranksBefore 11 = .ok (.aload_n 0, 1) := by decide +kernel
theorem dX0_ranksBefore_12 : decode cX0_ranksBefore 12 = .ok (.getfield 18, 3) := by decide +kernel
theorem dX0_ranksBefore_15 : decode cX0_ranksBefore 15 = .ok (.aload_n 1, 1) := by decide +kernel
theorem dX0_ranksBefore_16 : decode cX0_ranksBefore 16 = .ok (.getfield 18, 3) := by decide +kernel
theorem dX0_ranksBefore_19 : decode cX0_ranksBefore 19 = .ok (.if_icmp .le 7, 3) := by decide +kernel
theorem dX0_ranksBefore_22 : decode cX0_ranksBefore 22 = .ok (.iconst 1, 1) := by decide +kernel
theorem dX0_ranksBefore_23 : decode cX0_ranksBefore 23 = .ok (.goto 4, 3) := by decide +kernel
theorem dX0_ranksBefore_26 : decode cX0_ranksBefore 26 = .ok (.iconst 0, 1) := by decide +kernel
theorem dX0_ranksBefore_27 : decode cX0_ranksBefore 27 = .ok (.ireturn, 1) := by decide +kernel
theorem dX0_ranksBefore_28 : decode cX0_ranksBefore 28 = .ok (.aload_n 0, 1) := by decide +kernel
theorem dX0_ranksBefore_29 : decode cX0_ranksBefore 29 = .ok (.getfield 21, 3) := by decide +kernel
theorem dX0_ranksBefore_32 : decode cX0_ranksBefore 32 = .ok (.aload_n 1, 1) := by decide +kernel
theorem dX0_ranksBefore_33 : decode cX0_ranksBefore 33 = .ok (.getfield 21, 3) := by decide +kernel
theorem dX0_ranksBefore_36 : decode cX0_ranksBefore 36 = .ok (.if_icmp .eq 20, 3) := by decide +kernel
theorem dX0_ranksBefore_39 : decode cX0_ranksBefore 39 = .ok (.aload_n 0, 1) := by decide +kernel
theorem dX0_ranksBefore_40 : decode cX0_ranksBefore 40 = .ok (.getfield 21, 3) := by decide +kernel
theorem dX0_ranksBefore_43 : decode cX0_ranksBefore 43 = .ok (.aload_n 1, 1) := by decide +kernel
theorem dX0_ranksBefore_44 : decode cX0_ranksBefore 44 = .ok (.getfield 21, 3) := by decide +kernel
theorem dX0_ranksBefore_47 : decode cX0_ranksBefore 47 = .ok (.if_icmp .ge 7, 3) := by decide +kernel
theorem dX0_ranksBefore_50 : decode cX0_ranksBefore 50 = .ok (.iconst 1, 1) := by decide +kernel
theorem dX0_ranksBefore_51 : decode cX0_ranksBefore 51 = .ok (.goto 4, 3) := by decide +kernel
theorem dX0_ranksBefore_54 : decode cX0_ranksBefore 54 = .ok (.iconst 0, 1) := by decide +kernel
theorem dX0_ranksBefore_55 : decode cX0_ranksBefore 55 = .ok (.ireturn, 1) := by decide +kernel
theorem dX0_ranksBefore_56 : decode cX0_ranksBefore 56 = .ok (.aload_n 0, 1) := by decide +kernel
theorem dX0_ranksBefore_57 : decode cX0_ranksBefore 57 = .ok (.getfield 9, 3) := by decide +kernel
theorem dX0_ranksBefore_60 : decode cX0_ranksBefore 60 = .ok (.aload_n 1, 1) := by decide +kernel
theorem dX0_ranksBefore_61 : decode cX0_ranksBefore 61 = .ok (.getfield 9, 3) := by decide +kernel
theorem dX0_ranksBefore_64 : decode cX0_ranksBefore 64 = .ok (.if_icmp .ge 7, 3) := by decide +kernel
theorem dX0_ranksBefore_67 : decode cX0_ranksBefore 67 = .ok (.iconst 1, 1) := by decide +kernel
theorem dX0_ranksBefore_68 : decode cX0_ranksBefore 68 = .ok (.goto 4, 3) := by decide +kernel
theorem dX0_ranksBefore_71 : decode cX0_ranksBefore 71 = .ok (.iconst 0, 1) := by decide +kernel
theorem dX0_ranksBefore_72 : decode cX0_ranksBefore 72 = .ok (.ireturn, 1) := by decide +kernel
theorem dX1_init_0 : decode cX1_init 0 = .ok (.aload_n 0, 1) := by decide +kernel
theorem dX1_init_1 : decode cX1_init 1 = .ok (.invokespecial 3, 3) := by decide +kernel
theorem dX1_init_4 : decode cX1_init 4 = .ok (.aload_n 0, 1) := by decide +kernel
theorem dX1_init_5 : decode cX1_init 5 = .ok (.bipush 8, 2) := by decide +kernel
theorem dX1_init_7 : decode cX1_init 7 = .ok (.anewarray 9, 3) := by decide +kernel
theorem dX1_init_10 : decode cX1_init 10 = .ok (.putfield 11, 3) := by decide +kernel
theorem dX1_init_13 : decode cX1_init 13 = .ok (.iconst 0, 1) := by decide +kernel
theorem dX1_init_14 : decode cX1_init 14 = .ok (.istore_n 1, 1) := by decide +kernel
theorem dX1_init_15 : decode cX1_init 15 = .ok (.iload_n 1, 1) := by decide +kernel
theorem dX1_init_16 : decode cX1_init 16 = .ok (.bipush 8, 2) := by decide +kernel
theorem dX1_init_18 : decode cX1_init 18 = .ok (.if_icmp .ge 22, 3) := by decide +kernel
theorem dX1_init_21 : decode cX1_init 21 = .ok (.aload_n 0, 1) := by decide +kernel
theorem dX1_init_22 : decode cX1_init 22 = .ok (.getfield 11, 3) := by decide +kernel
theorem dX1_init_25 : decode cX1_init 25 = .ok (.iload_n 1, 1) := by decide +kernel
theorem dX1_init_26 : decode cX1_init 26 = .ok (.new 9, 3) := by decide +kernel
theorem dX1_init_29 : decode cX1_init 29 = .ok (.dup, 1) := by decide +kernel
theorem dX1_init_30 : decode cX1_init 30 = .ok (.invokespecial 17, 3) := by decide +kernel
theorem dX1_init_33 : decode cX1_init 33 = .ok (.aastore, 1) := by decide +kernel
theorem dX1_init_34 : decode cX1_init 34 = .ok (.iinc 1 1, 3) := by decide +kernel
theorem dX1_init_37 : decode cX1_init 37 = .ok (.goto (-22), 3) := by decide +kernel
theorem dX1_init_40 : decode cX1_init 40 = .ok (.return_, 1) := by decide +kernel
theorem dX1_push_0 : decode cX1_push 0 = .ok (.aload_n 0, 1) := by decide +kernel
theorem dX1_push_1 : decode cX1_push 1 = .ok (.getfield 11, 3) := by decide +kernel
theorem dX1_push_4 : decode cX1_push 4 = .ok (.aload_n 0, 1) := by decide +kernel
theorem dX1_push_5 : decode cX1_push 5 = .ok (.getfield 18, 3) := by decide +kernel
theorem dX1_push_8 : decode cX1_push 8 = .ok (.aload_n 0, 1) := by decide +kernel
theorem dX1_push_9 : decode cX1_push 9 = .ok (.getfield 22, 3) := by decide +kernel
theorem dX1_push_12 : decode cX1_push 12 = .ok (.iadd, 1) := by decide +kernel
theorem dX1_push_13 : decode cX1_push 13 = .ok (.bipush 8, 2) := by decide +kernel
theorem dX1_push_15 : decode cX1_push 15 = .ok (.invokestatic 25, 3) := by decide +kernel
theorem dX1_push_18 : decode cX1_push 18 = .ok (.aaload, 1) := by decide +kernel
theorem dX1_push_19 : decode cX1_push 19 = .ok (.aload_n 1, 1) := by decide +kernel
theorem dX1_push_20 : decode cX1_push 20 = .ok (.invokevirtual 31, 3) := by decide +kernel
theorem dX1_push_23 : decode cX1_push 23 = .ok (.aload_n 0, 1) := by decide +kernel
theorem dX1_push_24 : decode cX1_push 24 = .ok (.getfield 22, 3) := by decide +kernel
theorem dX1_push_27 : decode cX1_push 27 = .ok (.bipush 8, 2) := by decide +kernel
theorem dX1_push_29 : decode cX1_push 29 = .ok (.if_icmp .ge 16, 3) := by decide +kernel
theorem dX1_push_32 : decode cX1_push 32 = .ok (.aload_n 0, 1) := by decide +kernel
theorem dX1_push_33 : decode cX1_push 33 = .ok (.dup, 1) := by decide +kernel
theorem dX1_push_34 : decode cX1_push 34 = .ok (.getfield 22, 3) := by decide +kernel
theorem dX1_push_37 : decode cX1_push 37 = .ok (.iconst 1, 1) := by decide +kernel
theorem dX1_push_38 : decode cX1_push 38 = .ok (.iadd, 1) := by decide +kernel
theorem dX1_push_39 : decode cX1_push 39 = .ok (.putfield 22, 3) := by decide +kernel
theorem dX1_push_42 : decode cX1_push 42 = .ok (.goto 18, 3) := by decide +kernel
theorem dX1_push_45 : decode cX1_push 45 = .ok (.aload_n 0, 1) := by decide +kernel
theorem dX1_push_46 : decode cX1_push 46 = .ok (.aload_n 0, 1) := by decide +kernel
theorem dX1_push_47 : decode cX1_push 47 = .ok (.getfield 18, 3) := by decide +kernel
theorem dX1_push_50 : decode cX1_push 50 = .ok (.iconst 1, 1) := by decide +kernel
theorem dX1_push_51 : decode cX1_push 51 = .ok (.iadd, 1) := by decide +kernel
theorem dX1_push_52 : decode cX1_push 52 = .ok (.bipush 8, 2) := by decide +kernel
theorem dX1_push_54 : decode cX1_push 54 = .ok (.invokestatic 25, 3) := by decide +kernel
theorem dX1_push_57 : decode cX1_push 57 = .ok (.putfield 18, 3) := by decide +kernel
theorem dX1_push_60 : decode cX1_push 60 = .ok (.return_, 1) := by decide +kernel
theorem dX1_popInto_0 : decode cX1_popInto 0 = .ok (.aload_n 0, 1) := by decide +kernel
theorem dX1_popInto_1 : decode cX1_popInto 1 = .ok (.getfield 22, 3) := by decide +kernel
theorem dX1_popInto_4 : decode cX1_popInto 4 = .ok (.ifCond .le 36, 3) := by decide +kernel
theorem dX1_popInto_7 : decode cX1_popInto 7 = .ok (.aload_n 0, 1) := by decide +kernel
theorem dX1_popInto_8 : decode cX1_popInto 8 = .ok (.dup, 1) := by decide +kernel
theorem dX1_popInto_9 : decode cX1_popInto 9 = .ok (.getfield 22, 3) := by decide +kernel
theorem dX1_popInto_12 : decode cX1_popInto 12 = .ok (.iconst 1, 1) := by decide +kernel
theorem dX1_popInto_13 : decode cX1_popInto 13 = .ok (.isub, 1) := by decide +kernel
theorem dX1_popInto_14 : decode cX1_popInto 14 = .ok (.putfield 22, 3) := by decide +kernel
theorem dX1_popInto_17 : decode cX1_popInto 17 = .ok (.aload_n 1, 1) := by decide +kernel
theorem dX1_popInto_18 : decode cX1_popInto 18 = .ok (.aload_n 0, 1) := by decide +kernel
theorem dX1_popInto_19 : decode cX1_popInto 19 = .ok (.getfield 11, 3) := by decide +kernel
theorem dX1_popInto_22 : decode cX1_popInto 22 = .ok (.aload_n 0, 1) := by decide +kernel
theorem dX1_popInto_23 : decode cX1_popInto 23 = .ok (.getfield 18, 3) := by decide +kernel
theorem dX1_popInto_26 : decode cX1_popInto 26 = .ok (.aload_n 0, 1) := by decide +kernel
theorem dX1_popInto_27 : decode cX1_popInto 27 = .ok (.getfield 22, 3) := by decide +kernel
theorem dX1_popInto_30 : decode cX1_popInto 30 = .ok (.iadd, 1) := by decide +kernel
theorem dX1_popInto_31 : decode cX1_popInto 31 = .ok (.bipush 8, 2) := by decide +kernel
theorem dX1_popInto_33 : decode cX1_popInto 33 = .ok (.invokestatic 25, 3) := by decide +kernel
theorem dX1_popInto_36 : decode cX1_popInto 36 = .ok (.aaload, 1) := by decide +kernel
theorem dX1_popInto_37 : decode cX1_popInto 37 = .ok (.invokevirtual 31, 3) := by decide +kernel
theorem dX1_popInto_40 : decode cX1_popInto 40 = .ok (.return_, 1) := by decide +kernel
theorem dX2_byWalking_0 : decode cX2_byWalking 0 = .ok (.aload_n 0, 1) := by decide +kernel
theorem dX2_byWalking_1 : decode cX2_byWalking 1 = .ok (.getfield 9, 3) := by decide +kernel
theorem dX2_byWalking_4 : decode cX2_byWalking 4 = .ok (.istore_n 2, 1) := by decide +kernel
theorem dX2_byWalking_5 : decode cX2_byWalking 5 = .ok (.aload_n 1, 1) := by decide +kernel
theorem dX2_byWalking_6 : decode cX2_byWalking 6 = .ok (.getfield 9, 3) := by decide +kernel
theorem dX2_byWalking_9 : decode cX2_byWalking 9 = .ok (.istore_n 3, 1) := by decide +kernel
theorem dX2_byWalking_10 : decode cX2_byWalking 10 = .ok (.aload_n 0, 1) := by decide +kernel
theorem dX2_byWalking_11 : decode cX2_byWalking 11 = .ok (.getfield 15, 3) := by decide +kernel
theorem dX2_byWalking_14 : decode cX2_byWalking 14 = .ok (.aload_n 1, 1) := by decide +kernel
theorem dX2_byWalking_15 : decode cX2_byWalking 15 = .ok (.getfield 15, 3) := by decide +kernel
theorem dX2_byWalking_18 : decode cX2_byWalking 18 = .ok (.iadd, 1) := by decide +kernel
theorem dX2_byWalking_19 : decode cX2_byWalking 19 = .ok (.iload_n 2, 1) := by decide +kernel
theorem dX2_byWalking_20 : decode cX2_byWalking 20 = .ok (.iload_n 3, 1) := by decide +kernel
theorem dX2_byWalking_21 : decode cX2_byWalking 21 = .ok (.isub, 1) := by decide +kernel
theorem dX2_byWalking_22 : decode cX2_byWalking 22 = .ok (.invokestatic 18, 3) := by decide +kernel
theorem dX2_byWalking_25 : decode cX2_byWalking 25 = .ok (.iadd, 1) := by decide +kernel
theorem dX2_byWalking_26 : decode cX2_byWalking 26 = .ok (.istore 4, 2) := by decide +kernel
theorem dX2_byWalking_28 : decode cX2_byWalking 28 = .ok (.iconst 0, 1) := by decide +kernel
theorem dX2_byWalking_29 : decode cX2_byWalking 29 = .ok (.istore 5, 2) := by decide +kernel
theorem dX2_byWalking_31 : decode cX2_byWalking 31 = .ok (.iload 5, 2) := by decide +kernel
theorem dX2_byWalking_33 : decode cX2_byWalking 33 = .ok (.iload 4, 2) := by decide +kernel
theorem dX2_byWalking_35 : decode cX2_byWalking 35 = .ok (.if_icmp .ge 36, 3) := by decide +kernel
theorem dX2_byWalking_38 : decode cX2_byWalking 38 = .ok (.iload_n 2, 1) := by decide +kernel
theorem dX2_byWalking_39 : decode cX2_byWalking 39 = .ok (.iload_n 3, 1) := by decide +kernel
theorem dX2_byWalking_40 : decode cX2_byWalking 40 = .ok (.if_icmp .eq 31, 3) := by decide +kernel
theorem dX2_byWalking_43 : decode cX2_byWalking 43 = .ok (.iload_n 2, 1) := by decide +kernel
theorem dX2_byWalking_44 : decode cX2_byWalking 44 = .ok (.iload_n 3, 1) := by decide +kernel
theorem dX2_byWalking_45 : decode cX2_byWalking 45 = .ok (.if_icmp .ge 13, 3) := by decide +kernel
theorem dX2_byWalking_48 : decode cX2_byWalking 48 = .ok (.iload_n 2, 1) := by decide +kernel
theorem dX2_byWalking_49 : decode cX2_byWalking 49 = .ok (.aload_n 0, 1) := by decide +kernel
theorem dX2_byWalking_50 : decode cX2_byWalking 50 = .ok (.getfield 15, 3) := by decide +kernel
theorem dX2_byWalking_53 : decode cX2_byWalking 53 = .ok (.iadd, 1) := by decide +kernel
theorem dX2_byWalking_54 : decode cX2_byWalking 54 = .ok (.istore_n 2, 1) := by decide +kernel
theorem dX2_byWalking_55 : decode cX2_byWalking 55 = .ok (.goto 10, 3) := by decide +kernel
theorem dX2_byWalking_58 : decode cX2_byWalking 58 = .ok (.iload_n 3, 1) := by decide +kernel
theorem dX2_byWalking_59 : decode cX2_byWalking 59 = .ok (.aload_n 1, 1) := by decide +kernel
theorem dX2_byWalking_60 : decode cX2_byWalking 60 = .ok (.getfield 15, 3) := by decide +kernel
theorem dX2_byWalking_63 : decode cX2_byWalking 63 = .ok (.iadd, 1) := by decide +kernel
theorem dX2_byWalking_64 : decode cX2_byWalking 64 = .ok (.istore_n 3, 1) := by decide +kernel
theorem dX2_byWalking_65 : decode cX2_byWalking 65 = .ok (.iinc 5 1, 3) := by decide +kernel
theorem dX2_byWalking_68 : decode cX2_byWalking 68 = .ok (.goto (-37), 3) := by decide +kernel
theorem dX2_byWalking_71 : decode cX2_byWalking 71 = .ok (.iload_n 2, 1) := by decide +kernel
theorem dX2_byWalking_72 : decode cX2_byWalking 72 = .ok (.iload_n 3, 1) := by decide +kernel
theorem dX2_byWalking_73 : decode cX2_byWalking 73 = .ok (.if_icmp .ne 7, 3) := by decide +kernel
theorem dX2_byWalking_76 : decode cX2_byWalking 76 = .ok (.iload_n 2, 1) := by decide +kernel
theorem dX2_byWalking_77 : decode cX2_byWalking 77 = .ok (.goto 4, 3) := by decide +kernel
theorem dX2_byWalking_80 : decode cX2_byWalking 80 = .ok (.iconst (-1), 1) := by decide +kernel
theorem dX2_byWalking_81 : decode cX2_byWalking 81 = .ok (.ireturn, 1) := by decide +kernel
theorem dX2_byEuclid_0 : decode cX2_byEuclid 0 = .ok (.aload_n 0, 1) := by decide +kernel
theorem dX2_byEuclid_1 : decode cX2_byEuclid 1 = .ok (.getfield 15, 3) := by decide +kernel
theorem dX2_byEuclid_4 : decode cX2_byEuclid 4 = .ok (.i2l, 1) := by decide +kernel
theorem dX2_byEuclid_5 : decode cX2_byEuclid 5 = .ok (.aload_n 1, 1) := by decide +kernel
theorem dX2_byEuclid_6 : decode cX2_byEuclid 6 = .ok (.getfield 15, 3) := by decide +kernel
theorem dX2_byEuclid_9 : decode cX2_byEuclid 9 = .ok (.i2l, 1) := by decide +kernel
theorem dX2_byEuclid_10 : decode cX2_byEuclid 10 = .ok (.invokestatic 24, 3) := by decide +kernel
theorem dX2_byEuclid_13 : decode cX2_byEuclid 13 = .ok (.l2i, 1) := by decide +kernel
theorem dX2_byEuclid_14 : decode cX2_byEuclid 14 = .ok (.istore_n 2, 1) := by decide +kernel
theorem dX2_byEuclid_15 : decode cX2_byEuclid 15 = .ok (.aload_n 1, 1) := by decide +kernel
theorem dX2_byEuclid_16 : decode cX2_byEuclid 16 = .ok (.getfield 9, 3) := by decide +kernel
theorem dX2_byEuclid_19 : decode cX2_byEuclid 19 = .ok (.aload_n 0, 1) := by decide +kernel
theorem dX2_byEuclid_20 : decode cX2_byEuclid 20 = .ok (.getfield 9, 3) := by decide +kernel
theorem dX2_byEuclid_23 : decode cX2_byEuclid 23 = .ok (.isub, 1) := by decide +kernel
theorem dX2_byEuclid_24 : decode cX2_byEuclid 24 = .ok (.istore_n 3, 1) := by decide +kernel
theorem dX2_byEuclid_25 : decode cX2_byEuclid 25 = .ok (.iload_n 2, 1) := by decide +kernel
theorem dX2_byEuclid_26 : decode cX2_byEuclid 26 = .ok (.iconst 1, 1) := by decide +kernel
theorem dX2_byEuclid_27 : decode cX2_byEuclid 27 = .ok (.if_icmp .lt 9, 3) := by decide +kernel
theorem dX2_byEuclid_30 : decode cX2_byEuclid 30 = .ok (.iload_n 3, 1) := by decide +kernel
theorem dX2_byEuclid_31 : decode cX2_byEuclid 31 = .ok (.iload_n 2, 1) := by decide +kernel
theorem dX2_byEuclid_32 : decode cX2_byEuclid 32 = .ok (.irem, 1) := by decide +kernel
theorem dX2_byEuclid_33 : decode cX2_byEuclid 33 = .ok (.ifCond .eq 5, 3) := by decide +kernel
theorem dX2_byEuclid_36 : decode cX2_byEuclid 36 = .ok (.iconst (-1), 1) := by decide +kernel
theorem dX2_byEuclid_37 : decode cX2_byEuclid 37 = .ok (.ireturn, 1) := by decide +kernel
theorem dX2_byEuclid_38 : decode cX2_byEuclid 38 = .ok (.aload_n 1, 1) := by decide +kernel
theorem dX2_byEuclid_39 : decode cX2_byEuclid 39 = .ok (.getfield 15, 3) := by decide +kernel
theorem dX2_byEuclid_42 : decode cX2_byEuclid 42 = .ok (.iload_n 2, 1) := by decide +kernel
theorem dX2_byEuclid_43 : decode cX2_byEuclid 43 = .ok (.idiv, 1) := by decide +kernel
theorem dX2_byEuclid_44 : decode cX2_byEuclid 44 = .ok (.istore 4, 2) := by decide +kernel
theorem dX2_byEuclid_46 : decode cX2_byEuclid 46 = .ok (.iload 4, 2) := by decide +kernel
theorem dX2_byEuclid_48 : decode cX2_byEuclid 48 = .ok (.iconst 1, 1) := by decide +kernel
theorem dX2_byEuclid_49 : decode cX2_byEuclid 49 = .ok (.if_icmp .ge 5, 3) := by decide +kernel
theorem dX2_byEuclid_52 : decode cX2_byEuclid 52 = .ok (.iconst (-1), 1) := by decide +kernel
theorem dX2_byEuclid_53 : decode cX2_byEuclid 53 = .ok (.ireturn, 1) := by decide +kernel
theorem dX2_byEuclid_54 : decode cX2_byEuclid 54 = .ok (.aload_n 0, 1) := by decide +kernel
theorem dX2_byEuclid_55 : decode cX2_byEuclid 55 = .ok (.getfield 15, 3) := by decide +kernel
theorem dX2_byEuclid_58 : decode cX2_byEuclid 58 = .ok (.aload_n 1, 1) := by decide +kernel
theorem dX2_byEuclid_59 : decode cX2_byEuclid 59 = .ok (.getfield 15, 3) := by decide +kernel
theorem dX2_byEuclid_62 : decode cX2_byEuclid 62 = .ok (.invokestatic 30, 3) := by decide +kernel
theorem dX2_byEuclid_65 : decode cX2_byEuclid 65 = .ok (.istore 5, 2) := by decide +kernel
theorem dX2_byEuclid_67 : decode cX2_byEuclid 67 = .ok (.iload_n 3, 1) := by decide +kernel
theorem dX2_byEuclid_68 : decode cX2_byEuclid 68 = .ok (.iload_n 2, 1) := by decide +kernel
theorem dX2_byEuclid_69 : decode cX2_byEuclid 69 = .ok (.idiv, 1) := by decide +kernel
theorem dX2_byEuclid_70 : decode cX2_byEuclid 70 = .ok (.iload 4, 2) := by decide +kernel
theorem dX2_byEuclid_72 : decode cX2_byEuclid 72 = .ok (.invokestatic 34, 3) := by decide +kernel
theorem dX2_byEuclid_75 : decode cX2_byEuclid 75 = .ok (.iload 5, 2) := by decide +kernel
theorem dX2_byEuclid_77 : decode cX2_byEuclid 77 = .ok (.iload 4, 2) := by decide +kernel
theorem dX2_byEuclid_79 : decode cX2_byEuclid 79 = .ok (.invokestatic 34, 3) := by decide +kernel
theorem dX2_byEuclid_82 : decode cX2_byEuclid 82 = .ok (.imul, 1) := by decide +kernel
theorem dX2_byEuclid_83 : decode cX2_byEuclid 83 = .ok (.iload 4, 2) := by decide +kernel
theorem dX2_byEuclid_85 : decode cX2_byEuclid 85 = .ok (.invokestatic 34, 3) := by decide +kernel
theorem dX2_byEuclid_88 : decode cX2_byEuclid 88 = .ok (.istore 6, 2) := by decide +kernel
theorem dX2_byEuclid_90 : decode cX2_byEuclid 90 = .ok (.aload_n 0, 1) := by decide +kernel
theorem dX2_byEuclid_91 : decode cX2_byEuclid 91 = .ok (.getfield 9, 3) := by decide +kernel
theorem dX2_byEuclid_94 : decode cX2_byEuclid 94 = .ok (.aload_n 1, 1) := by decide +kernel
theorem dX2_byEuclid_95 : decode cX2_byEuclid 95 = .ok (.getfield 9, 3) := by decide +kernel
theorem dX2_byEuclid_98 : decode cX2_byEuclid 98 = .ok (.invokestatic 37, 3) := by decide +kernel
theorem dX2_byEuclid_101 : decode cX2_byEuclid 101 = .ok (.istore 7, 2) := by decide +kernel
theorem dX2_byEuclid_103 : decode cX2_byEuclid 103 = .ok (.iload 7, 2) := by decide +kernel
theorem dX2_byEuclid_105 : decode cX2_byEuclid 105 = .ok (.aload_n 0, 1) := by decide +kernel
theorem dX2_byEuclid_106 : decode cX2_byEuclid 106 = .ok (.getfield 9, 3) := by decide +kernel
theorem dX2_byEuclid_109 : decode cX2_byEuclid 109 = .ok (.iload 6, 2) := by decide +kernel
theorem dX2_byEuclid_111 : decode cX2_byEuclid 111 = .ok (.aload_n 0, 1) := by decide +kernel
theorem dX2_byEuclid_112 : decode cX2_byEuclid 112 = .ok (.getfield 15, 3) := by decide +kernel
theorem dX2_byEuclid_115 : decode cX2_byEuclid 115 = .ok (.imul, 1) := by decide +kernel
theorem dX2_byEuclid_116 : decode cX2_byEuclid 116 = .ok (.iadd, 1) := by decide +kernel
theorem dX2_byEuclid_117 : decode cX2_byEuclid 117 = .ok (.iload 4, 2) := by decide +kernel
theorem dX2_byEuclid_119 : decode cX2_byEuclid 119 = .ok (.aload_n 0, 1) := by decide +kernel
theorem dX2_byEuclid_120 : decode cX2_byEuclid 120 = .ok (.getfield 15, 3) := by decide +kernel
theorem dX2_byEuclid_123 : decode cX2_byEuclid 123 = .ok (.imul, 1) := by decide +kernel
theorem dX2_byEuclid_124 : decode cX2_byEuclid 124 = .ok (.invokestatic 40, 3) := by decide +kernel
theorem dX2_byEuclid_127 : decode cX2_byEuclid 127 = .ok (.ireturn, 1) := by decide +kernel
theorem dX2_notBefore_0 : decode cX2_notBefore 0 = .ok (.iload_n 1, 1) := by decide +kernel
theorem dX2_notBefore_1 : decode cX2_notBefore 1 = .ok (.iload_n 0, 1) := by decide +kernel
theorem dX2_notBefore_2 : decode cX2_notBefore 2 = .ok (.if_icmp .ge 8, 3) := by decide +kernel
theorem dX2_notBefore_5 : decode cX2_notBefore 5 = .ok (.iload_n 2, 1) := by decide +kernel
theorem dX2_notBefore_6 : decode cX2_notBefore 6 = .ok (.iconst 1, 1) := by decide +kernel
theorem dX2_notBefore_7 : decode cX2_notBefore 7 = .ok (.if_icmp .ge 5, 3) := by decide +kernel
theorem dX2_notBefore_10 : decode cX2_notBefore 10 = .ok (.iload_n 1, 1) := by decide +kernel
theorem dX2_notBefore_11 : decode cX2_notBefore 11 = .ok (.ireturn, 1) := by decide +kernel
theorem dX2_notBefore_12 : decode cX2_notBefore 12 = .ok (.iload_n 0, 1) := by decide +kernel
theorem dX2_notBefore_13 : decode cX2_notBefore 13 = .ok (.iload_n 1, 1) := by decide +kernel
theorem dX2_notBefore_14 : decode cX2_notBefore 14 = .ok (.iload_n 0, 1) := by decide +kernel
theorem dX2_notBefore_15 : decode cX2_notBefore 15 = .ok (.isub, 1) := by decide +kernel
theorem dX2_notBefore_16 : decode cX2_notBefore 16 = .ok (.iload_n 2, 1) := by decide +kernel
theorem dX2_notBefore_17 : decode cX2_notBefore 17 = .ok (.invokestatic 34, 3) := by decide +kernel
theorem dX2_notBefore_20 : decode cX2_notBefore 20 = .ok (.iadd, 1) := by decide +kernel
theorem dX2_notBefore_21 : decode cX2_notBefore 21 = .ok (.ireturn, 1) := by decide +kernel
theorem dX2_factorOfDivisor_0 : decode cX2_factorOfDivisor 0 = .ok (.iconst 1, 1) := by decide +kernel
theorem dX2_factorOfDivisor_1 : decode cX2_factorOfDivisor 1 = .ok (.istore_n 2, 1) := by decide +kernel
theorem dX2_factorOfDivisor_2 : decode cX2_factorOfDivisor 2 = .ok (.iconst 0, 1) := by decide +kernel
theorem dX2_factorOfDivisor_3 : decode cX2_factorOfDivisor 3 = .ok (.istore_n 3, 1) := by decide +kernel
theorem dX2_factorOfDivisor_4 : decode cX2_factorOfDivisor 4 = .ok (.iconst 0, 1) := by decide +kernel
theorem dX2_factorOfDivisor_5 : decode cX2_factorOfDivisor 5 = .ok (.istore 4, 2) := by decide +kernel
theorem dX2_factorOfDivisor_7 : decode cX2_factorOfDivisor 7 = .ok (.iload 4, 2) := by decide +kernel
theorem dX2_factorOfDivisor_9 : decode cX2_factorOfDivisor 9 = .ok (.bipush 100, 2) := by decide +kernel
theorem dX2_factorOfDivisor_11 : decode cX2_factorOfDivisor 11 = .ok (.if_icmp .ge 41, 3) := by decide +kernel
theorem dX2_factorOfDivisor_14 : decode cX2_factorOfDivisor 14 = .ok (.iload_n 1, 1) := by decide +kernel
theorem dX2_factorOfDivisor_15 : decode cX2_factorOfDivisor 15 = .ok (.ifCond .le 37, 3) := by decide +kernel
theorem dX2_factorOfDivisor_18 : decode cX2_factorOfDivisor 18 = .ok (.iload_n 0, 1) := by decide +kernel
theorem dX2_factorOfDivisor_19 : decode cX2_factorOfDivisor 19 = .ok (.iload_n 1, 1) := by decide +kernel
theorem dX2_factorOfDivisor_20 : decode cX2_factorOfDivisor 20 = .ok (.idiv, 1) := by decide +kernel
theorem dX2_factorOfDivisor_21 : decode cX2_factorOfDivisor 21 = .ok (.istore 5, 2) := by decide +kernel
theorem dX2_factorOfDivisor_23 : decode cX2_factorOfDivisor 23 = .ok (.iload_n 0, 1) := by decide +kernel
theorem dX2_factorOfDivisor_24 : decode cX2_factorOfDivisor 24 = .ok (.iload_n 1, 1) := by decide +kernel
theorem dX2_factorOfDivisor_25 : decode cX2_factorOfDivisor 25 = .ok (.irem, 1) := by decide +kernel
theorem dX2_factorOfDivisor_26 : decode cX2_factorOfDivisor 26 = .ok (.istore 6, 2) := by decide +kernel
theorem dX2_factorOfDivisor_28 : decode cX2_factorOfDivisor 28 = .ok (.iload_n 1, 1) := by decide +kernel
theorem dX2_factorOfDivisor_29 : decode cX2_factorOfDivisor 29 = .ok (.istore_n 0, 1) := by decide +kernel
theorem dX2_factorOfDivisor_30 : decode cX2_factorOfDivisor 30 = .ok (.iload 6, 2) := by decide +kernel
theorem dX2_factorOfDivisor_32 : decode cX2_factorOfDivisor 32 = .ok (.istore_n 1, 1) := by decide +kernel
theorem dX2_factorOfDivisor_33 : decode cX2_factorOfDivisor 33 = .ok (.iload_n 2, 1) := by decide +kernel
theorem dX2_factorOfDivisor_34 : decode cX2_factorOfDivisor 34 = .ok (.iload 5, 2) := by decide +kernel
theorem dX2_factorOfDivisor_36 : decode cX2_factorOfDivisor 36 = .ok (.iload_n 3, 1) := by decide +kernel
theorem dX2_factorOfDivisor_37 : decode cX2_factorOfDivisor 37 = .ok (.imul, 1) := by decide +kernel
theorem dX2_factorOfDivisor_38 : decode cX2_factorOfDivisor 38 = .ok (.isub, 1) := by decide +kernel
theorem dX2_factorOfDivisor_39 : decode cX2_factorOfDivisor 39 = .ok (.istore 7, 2) := by decide +kernel
theorem dX2_factorOfDivisor_41 : decode cX2_factorOfDivisor 41 = .ok (.iload_n 3, 1) := by decide +kernel
theorem dX2_factorOfDivisor_42 : decode cX2_factorOfDivisor 42 = .ok (.istore_n 2, 1) := by decide +kernel
theorem dX2_factorOfDivisor_43 : decode cX2_factorOfDivisor 43 = .ok (.iload 7, 2) := by decide +kernel
theorem dX2_factorOfDivisor_45 : decode cX2_factorOfDivisor 45 = .ok (.istore_n 3, 1) := by decide +kernel
theorem dX2_factorOfDivisor_46 : decode cX2_factorOfDivisor 46 = .ok (.iinc 4 1, 3) := by decide +kernel
theorem dX2_factorOfDivisor_49 : decode cX2_factorOfDivisor 49 = .ok (.goto (-42), 3) := by decide +kernel
theorem dX2_factorOfDivisor_52 : decode cX2_factorOfDivisor 52 = .ok (.iload_n 2, 1) := by decide +kernel
theorem dX2_factorOfDivisor_53 : decode cX2_factorOfDivisor 53 = .ok (.ireturn, 1) := by decide +kernel
theorem dX2_commonDivisor_0 : decode cX2_commonDivisor 0 = .ok (.iconst 0, 1) := by decide +kernel
theorem dX2_commonDivisor_1 : decode cX2_commonDivisor 1 = .ok (.istore 4, 2) := by decide +kernel
theorem dX2_commonDivisor_3 : decode cX2_commonDivisor 3 = .ok (.iload 4, 2) := by decide +kernel
theorem dX2_commonDivisor_5 : decode cX2_commonDivisor 5 = .ok (.bipush 100, 2) := by decide +kernel
theorem dX2_commonDivisor_7 : decode cX2_commonDivisor 7 = .ok (.if_icmp .ge 25, 3) := by decide +kernel
theorem dX2_commonDivisor_10 : decode cX2_commonDivisor 10 = .ok (.lload_n 2, 1) := by decide +kernel
theorem dX2_commonDivisor_11 : decode cX2_commonDivisor 11 = .ok (.lconst 0, 1) := by decide +kernel
theorem dX2_commonDivisor_12 : decode cX2_commonDivisor 12 = .ok (.lcmp, 1) := by decide +kernel
theorem dX2_commonDivisor_13 : decode cX2_commonDivisor 13 = .ok (.ifCond .le 19, 3) := by decide +kernel
theorem dX2_commonDivisor_16 : decode cX2_commonDivisor 16 = .ok (.lload_n 0, 1) := by decide +kernel
theorem dX2_commonDivisor_17 : decode cX2_commonDivisor 17 = .ok (.lload_n 2, 1) := by decide +kernel
theorem dX2_commonDivisor_18 : decode cX2_commonDivisor 18 = .ok (.lrem, 1) := by decide +kernel
theorem dX2_commonDivisor_19 : decode cX2_commonDivisor 19 = .ok (.lstore 5, 2) := by decide +kernel
theorem dX2_commonDivisor_21 : decode cX2_commonDivisor 21 = .ok (.lload_n 2, 1) := by decide +kernel
theorem dX2_commonDivisor_22 : decode cX2_commonDivisor 22 = .ok (.lstore_n 0, 1) := by decide +kernel
theorem dX2_commonDivisor_23 : decode cX2_commonDivisor 23 = .ok (.lload 5, 2) := by decide +kernel
theorem dX2_commonDivisor_25 : decode cX2_commonDivisor 25 = .ok (.lstore_n 2, 1) := by decide +kernel
theorem dX2_commonDivisor_26 : decode cX2_commonDivisor 26 = .ok (.iinc 4 1, 3) := by decide +kernel
theorem dX2_commonDivisor_29 : decode cX2_commonDivisor 29 = .ok (.goto (-26), 3) := by decide +kernel
theorem dX2_commonDivisor_32 : decode cX2_commonDivisor 32 = .ok (.lload_n 0, 1) := by decide +kernel
theorem dX2_commonDivisor_33 : decode cX2_commonDivisor 33 = .ok (.lreturn, 1) := by decide +kernel
theorem dX2_commonMultiple_0 : decode cX2_commonMultiple 0 = .ok (.lload_n 0, 1) := by decide +kernel
theorem dX2_commonMultiple_1 : decode cX2_commonMultiple 1 = .ok (.lload_n 2, 1) := by decide +kernel
theorem dX2_commonMultiple_2 : decode cX2_commonMultiple 2 = .ok (.invokestatic 24, 3) := by decide +kernel
theorem dX2_commonMultiple_5 : decode cX2_commonMultiple 5 = .ok (.lstore 4, 2) := by decide +kernel
theorem dX2_commonMultiple_7 : decode cX2_commonMultiple 7 = .ok (.lload 4, 2) := by decide +kernel
theorem dX2_commonMultiple_9 : decode cX2_commonMultiple 9 = .ok (.lconst 1, 1) := by decide +kernel
theorem dX2_commonMultiple_10 : decode cX2_commonMultiple 10 = .ok (.lcmp, 1) := by decide +kernel
theorem dX2_commonMultiple_11 : decode cX2_commonMultiple 11 = .ok (.ifCond .ge 7, 3) := by decide +kernel
theorem dX2_commonMultiple_14 : decode cX2_commonMultiple 14 = .ok (.lload_n 0, 1) := by decide +kernel
theorem dX2_commonMultiple_15 : decode cX2_commonMultiple 15 = .ok (.goto 9, 3) := by decide +kernel
theorem dX2_commonMultiple_18 : decode cX2_commonMultiple 18 = .ok (.lload_n 0, 1) := by decide +kernel
theorem dX2_commonMultiple_19 : decode cX2_commonMultiple 19 = .ok (.lload 4, 2) := by decide +kernel
theorem dX2_commonMultiple_21 : decode cX2_commonMultiple 21 = .ok (.ldiv, 1) := by decide +kernel
theorem dX2_commonMultiple_22 : decode cX2_commonMultiple 22 = .ok (.lload_n 2, 1) := by decide +kernel
theorem dX2_commonMultiple_23 : decode cX2_commonMultiple 23 = .ok (.lmul, 1) := by decide +kernel
theorem dX2_commonMultiple_24 : decode cX2_commonMultiple 24 = .ok (.lreturn, 1) := by decide +kernel
theorem dX3_init_0 : decode cX3_init 0 = .ok (.aload_n 0, 1) := by decide +kernel
theorem dX3_init_1 : decode cX3_init 1 = .ok (.invokespecial 3, 3) := by decide +kernel
theorem dX3_init_4 : decode cX3_init 4 = .ok (.aload_n 0, 1) := by decide +kernel
theorem dX3_init_5 : decode cX3_init 5 = .ok (.bipush 60, 2) := by decide +kernel
theorem dX3_init_7 : decode cX3_init 7 = .ok (.newarray .char, 2) := by decide +kernel
theorem dX3_init_9 : decode cX3_init 9 = .ok (.putfield 9, 3) := by decide +kernel
theorem dX3_init_12 : decode cX3_init 12 = .ok (.aload_n 0, 1) := by decide +kernel
theorem dX3_init_13 : decode cX3_init 13 = .ok (.bipush 12, 2) := by decide +kernel
theorem dX3_init_15 : decode cX3_init 15 = .ok (.newarray .int, 2) := by decide +kernel
theorem dX3_init_17 : decode cX3_init 17 = .ok (.putfield 15, 3) := by decide +kernel
theorem dX3_init_20 : decode cX3_init 20 = .ok (.aload_n 0, 1) := by decide +kernel
theorem dX3_init_21 : decode cX3_init 21 = .ok (.bipush 12, 2) := by decide +kernel
theorem dX3_init_23 : decode cX3_init 23 = .ok (.iconst 3, 1) := by decide +kernel
theorem dX3_init_24 : decode cX3_init 24 = .ok (.multianewarray 19 2, 4) := by decide +kernel
theorem dX3_init_28 : decode cX3_init 28 = .ok (.putfield 21, 3) := by decide +kernel
theorem dX3_init_31 : decode cX3_init 31 = .ok (.return_, 1) := by decide +kernel
theorem dX3_isFull_0 : decode cX3_isFull 0 = .ok (.aload_n 0, 1) := by decide +kernel
theorem dX3_isFull_1 : decode cX3_isFull 1 = .ok (.getfield 24, 3) := by decide +kernel
theorem dX3_isFull_4 : decode cX3_isFull 4 = .ok (.bipush 60, 2) := by decide +kernel
theorem dX3_isFull_6 : decode cX3_isFull 6 = .ok (.if_icmp .lt 7, 3) := by decide +kernel
theorem dX3_isFull_9 : decode cX3_isFull 9 = .ok (.iconst 1, 1) := by decide +kernel
theorem dX3_isFull_10 : decode cX3_isFull 10 = .ok (.goto 4, 3) := by decide +kernel
theorem dX3_isFull_13 : decode cX3_isFull 13 = .ok (.iconst 0, 1) := by decide +kernel
theorem dX3_isFull_14 : decode cX3_isFull 14 = .ok (.ireturn, 1) := by decide +kernel
theorem dX3_add_0 : decode cX3_add 0 = .ok (.aload_n 0, 1) := by decide +kernel
theorem dX3_add_1 : decode cX3_add 1 = .ok (.invokevirtual 28, 3) := by decide +kernel
theorem dX3_add_4 : decode cX3_add 4 = .ok (.ifCond .ne 23, 3) := by decide +kernel
theorem dX3_add_7 : decode cX3_add 7 = .ok (.aload_n 0, 1) := by decide +kernel
theorem dX3_add_8 : decode cX3_add 8 = .ok (.getfield 9, 3) := by decide +kernel
theorem dX3_add_11 : decode cX3_add 11 = .ok (.aload_n 0, 1) := by decide +kernel
theorem dX3_add_12 : decode cX3_add 12 = .ok (.getfield 24, 3) := by decide +kernel
theorem dX3_add_15 : decode cX3_add 15 = .ok (.iload_n 1, 1) := by decide +kernel
theorem dX3_add_16 : decode cX3_add 16 = .ok (.castore, 1) := by decide +kernel
theorem dX3_add_17 : decode cX3_add 17 = .ok (.aload_n 0, 1) := by decide +kernel
theorem dX3_add_18 : decode cX3_add 18 = .ok (.dup, 1) := by decide +kernel
theorem dX3_add_19 : decode cX3_add 19 = .ok (.getfield 24, 3) := by decide +kernel
theorem dX3_add_22 : decode cX3_add 22 = .ok (.iconst 1, 1) := by decide +kernel
theorem dX3_add_23 : decode cX3_add 23 = .ok (.iadd, 1) := by decide +kernel
theorem dX3_add_24 : decode cX3_add 24 = .ok (.putfield 24, 3) := by decide +kernel
theorem dX3_add_27 : decode cX3_add 27 = .ok (.return_, 1) := by decide +kernel
theorem dX3_parse_0 : decode cX3_parse 0 = .ok (.aload_n 0, 1) := by decide +kernel
theorem dX3_parse_1 : decode cX3_parse 1 = .ok (.iconst 0, 1) := by decide +kernel
theorem dX3_parse_2 : decode cX3_parse 2 = .ok (.putfield 32, 3) := by decide +kernel
theorem dX3_parse_5 : decode cX3_parse 5 = .ok (.aload_n 0, 1) := by decide +kernel
theorem dX3_parse_6 : decode cX3_parse 6 = .ok (.iconst 0, 1) := by decide +kernel
theorem dX3_parse_7 : decode cX3_parse 7 = .ok (.putfield 35, 3) := by decide +kernel
theorem dX3_parse_10 : decode cX3_parse 10 = .ok (.aload_n 0, 1) := by decide +kernel
theorem dX3_parse_11 : decode cX3_parse 11 = .ok (.getfield 35, 3) := by decide +kernel
theorem dX3_parse_14 : decode cX3_parse 14 = .ok (.bipush 12, 2) := by decide +kernel
theorem dX3_parse_16 : decode cX3_parse 16 = .ok (.if_icmp .ge 46, 3) := by decide +kernel
theorem dX3_parse_19 : decode cX3_parse 19 = .ok (.aload_n 0, 1) := by decide +kernel
theorem dX3_parse_20 : decode cX3_parse 20 = .ok (.invokevirtual 38, 3) := by decide +kernel
theorem dX3_parse_23 : decode cX3_parse 23 = .ok (.ifCond .ne 5, 3) := by decide +kernel
theorem dX3_parse_26 : decode cX3_parse 26 = .ok (.iconst 0, 1) := by decide +kernel
theorem dX3_parse_27 : decode cX3_parse 27 = .ok (.ireturn, 1) := by decide +kernel
theorem dX3_parse_28 : decode cX3_parse 28 = .ok (.aload_n 0, 1) := by decide +kernel
theorem dX3_parse_29 : decode cX3_parse 29 = .ok (.dup, 1) := by decide +kernel
theorem dX3_parse_30 : decode cX3_parse 30 = .ok (.getfield 35, 3) := by decide +kernel
theorem dX3_parse_33 : decode cX3_parse 33 = .ok (.iconst 1, 1) := by decide +kernel
theorem dX3_parse_34 : decode cX3_parse 34 = .ok (.iadd, 1) := by decide +kernel
theorem dX3_parse_35 : decode cX3_parse 35 = .ok (.putfield 35, 3) := by decide +kernel
theorem dX3_parse_38 : decode cX3_parse 38 = .ok (.aload_n 0, 1) := by decide +kernel
theorem dX3_parse_39 : decode cX3_parse 39 = .ok (.getfield 32, 3) := by decide +kernel
theorem dX3_parse_42 : decode cX3_parse 42 = .ok (.aload_n 0, 1) := by decide +kernel
theorem dX3_parse_43 : decode cX3_parse 43 = .ok (.getfield 24, 3) := by decide +kernel
theorem dX3_parse_46 : decode cX3_parse 46 = .ok (.if_icmp .ne 5, 3) := by decide +kernel
theorem dX3_parse_49 : decode cX3_parse 49 = .ok (.iconst 1, 1) := by decide +kernel
theorem dX3_parse_50 : decode cX3_parse 50 = .ok (.ireturn, 1) := by decide +kernel
theorem dX3_parse_51 : decode cX3_parse 51 = .ok (.aload_n 0, 1) := by decide +kernel
theorem dX3_parse_52 : decode cX3_parse 52 = .ok (.bipush 59, 2) := by decide +kernel
theorem dX3_parse_54 : decode cX3_parse 54 = .ok (.invokevirtual 41, 3) := by decide +kernel
theorem dX3_parse_57 : decode cX3_parse 57 = .ok (.ifCond .ne (-47), 3) := by decide +kernel
theorem dX3_parse_60 : decode cX3_parse 60 = .ok (.iconst 0, 1) := by decide +kernel
theorem dX3_parse_61 : decode cX3_parse 61 = .ok (.ireturn, 1) := by decide +kernel
theorem dX3_parse_62 : decode cX3_parse 62 = .ok (.iconst 0, 1) := by decide +kernel
theorem dX3_parse_63 : decode cX3_parse 63 = .ok (.ireturn, 1) := by decide +kernel
theorem dX3_readCommand_0 : decode cX3_readCommand 0 = .ok (.aload_n 0, 1) := by decide +kernel
theorem dX3_readCommand_1 : decode cX3_readCommand 1 = .ok (.invokevirtual 45, 3) := by decide +kernel
theorem dX3_readCommand_4 : decode cX3_readCommand 4 = .ok (.istore_n 1, 1) := by decide +kernel
theorem dX3_readCommand_5 : decode cX3_readCommand 5 = .ok (.iload_n 1, 1) := by decide +kernel
theorem dX3_readCommand_6 : decode cX3_readCommand 6 = .ok (.iconst (-1), 1) := by decide +kernel
theorem dX3_readCommand_7 : decode cX3_readCommand 7 = .ok (.if_icmp .ne 5, 3) := by decide +kernel
theorem dX3_readCommand_10 : decode cX3_readCommand 10 = .ok (.iconst 0, 1) := by decide +kernel
theorem dX3_readCommand_11 : decode cX3_readCommand 11 = .ok (.ireturn, 1) := by decide +kernel
theorem dX3_readCommand_12 : decode cX3_readCommand 12 = .ok (.aload_n 0, 1) := by decide +kernel
theorem dX3_readCommand_13 : decode cX3_readCommand 13 = .ok (.getfield 15, 3) := by decide +kernel
theorem dX3_readCommand_16 : decode cX3_readCommand 16 = .ok (.aload_n 0, 1) := by decide +kernel
theorem dX3_readCommand_17 : decode cX3_readCommand 17 = .ok (.getfield 35, 3) := by decide +kernel
theorem dX3_readCommand_20 : decode cX3_readCommand 20 = .ok (.iload_n 1, 1) := by decide +kernel
theorem dX3_readCommand_21 : decode cX3_readCommand 21 = .ok (.iastore, 1) := by decide +kernel
theorem dX3_readCommand_22 : decode cX3_readCommand 22 = .ok (.iconst 0, 1) := by decide +kernel
theorem dX3_readCommand_23 : decode cX3_readCommand 23 = .ok (.istore_n 2, 1) := by decide +kernel
theorem dX3_readCommand_24 : decode cX3_readCommand 24 = .ok (.iload_n 2, 1) := by decide +kernel
theorem dX3_readCommand_25 : decode cX3_readCommand 25 = .ok (.iload_n 1, 1) := by decide +kernel
theorem dX3_readCommand_26 : decode cX3_readCommand 26 = .ok (.invokestatic 49, 3) := by decide +kernel
theorem dX3_readCommand_29 : decode cX3_readCommand 29 = .ok (.if_icmp .ge 52, 3) := by decide +kernel
theorem dX3_readCommand_32 : decode cX3_readCommand 32 = .ok (.iload_n 2, 1) := by decide +kernel
theorem dX3_readCommand_33 : decode cX3_readCommand 33 = .ok (.ifCond .le 14, 3) := by decide +kernel
theorem dX3_readCommand_36 : decode cX3_readCommand 36 = .ok (.aload_n 0, 1) := by decide +kernel
theorem dX3_readCommand_37 : decode cX3_readCommand 37 = .ok (.bipush 32, 2) := by decide +kernel
theorem dX3_readCommand_39 : decode cX3_readCommand 39 = .ok (.invokevirtual 41, 3) := by decide +kernel
theorem dX3_readCommand_42 : decode cX3_readCommand 42 = .ok (.ifCond .ne 5, 3) := by decide +kernel
theorem dX3_readCommand_45 : decode cX3_readCommand 45 = .ok (.iconst 0, 1) := by decide +kernel
theorem dX3_readCommand_46 : decode cX3_readCommand 46 = .ok (.ireturn, 1) := by decide +kernel
theorem dX3_readCommand_47 : decode cX3_readCommand 47 = .ok (.aload_n 0, 1) := by decide +kernel
theorem dX3_readCommand_48 : decode cX3_readCommand 48 = .ok (.iload_n 1, 1) := by decide +kernel
theorem dX3_readCommand_49 : decode cX3_readCommand 49 = .ok (.invokestatic 53, 3) := by decide +kernel
theorem dX3_readCommand_52 : decode cX3_readCommand 52 = .ok (.invokevirtual 56, 3) := by decide +kernel
theorem dX3_readCommand_55 : decode cX3_readCommand 55 = .ok (.istore_n 3, 1) := by decide +kernel
theorem dX3_readCommand_56 : decode cX3_readCommand 56 = .ok (.iload_n 3, 1) := by decide +kernel
theorem dX3_readCommand_57 : decode cX3_readCommand 57 = .ok (.iconst (-1), 1) := by decide +kernel
theorem dX3_readCommand_58 : decode cX3_readCommand 58 = .ok (.if_icmp .ne 5, 3) := by decide +kernel
theorem dX3_readCommand_61 : decode cX3_readCommand 61 = .ok (.iconst 0, 1) := by decide +kernel
theorem dX3_readCommand_62 : decode cX3_readCommand 62 = .ok (.ireturn, 1) := by decide +kernel
theorem dX3_readCommand_63 : decode cX3_readCommand 63 = .ok (.aload_n 0, 1) := by decide +kernel
theorem dX3_readCommand_64 : decode cX3_readCommand 64 = .ok (.getfield 21, 3) := by decide +kernel
theorem dX3_readCommand_67 : decode cX3_readCommand 67 = .ok (.aload_n 0, 1) := by decide +kernel
theorem dX3_readCommand_68 : decode cX3_readCommand 68 = .ok (.getfield 35, 3) := by decide +kernel
theorem dX3_readCommand_71 : decode cX3_readCommand 71 = .ok (.aaload, 1) := by decide +kernel
theorem dX3_readCommand_72 : decode cX3_readCommand 72 = .ok (.iload_n 2, 1) := by decide +kernel
theorem dX3_readCommand_73 : decode cX3_readCommand 73 = .ok (.iload_n 3, 1) := by decide +kernel
theorem dX3_readCommand_74 : decode cX3_readCommand 74 = .ok (.iastore, 1) := by decide +kernel
theorem dX3_readCommand_75 : decode cX3_readCommand 75 = .ok (.iinc 2 1, 3) := by decide +kernel
theorem dX3_readCommand_78 : decode cX3_readCommand 78 = .ok (.goto (-54), 3) := by decide +kernel
theorem dX3_readCommand_81 : decode cX3_readCommand 81 = .ok (.iconst 1, 1) := by decide +kernel
theorem dX3_readCommand_82 : decode cX3_readCommand 82 = .ok (.ireturn, 1) := by decide +kernel
theorem dX3_readWord_0 : decode cX3_readWord 0 = .ok (.iconst 0, 1) := by decide +kernel
theorem dX3_readWord_1 : decode cX3_readWord 1 = .ok (.istore_n 1, 1) := by decide +kernel
theorem dX3_readWord_2 : decode cX3_readWord 2 = .ok (.iconst 0, 1) := by decide +kernel
theorem dX3_readWord_3 : decode cX3_readWord 3 = .ok (.istore_n 2, 1) := by decide +kernel
theorem dX3_readWord_4 : decode cX3_readWord 4 = .ok (.iload_n 2, 1) := by decide +kernel
theorem dX3_readWord_5 : decode cX3_readWord 5 = .ok (.bipush 7, 2) := by decide +kernel
theorem dX3_readWord_7 : decode cX3_readWord 7 = .ok (.if_icmp .ge 50, 3) := by decide +kernel
theorem dX3_readWord_10 : decode cX3_readWord 10 = .ok (.iload_n 2, 1) := by decide +kernel
theorem dX3_readWord_11 : decode cX3_readWord 11 = .ok (.invokestatic 59, 3) := by decide +kernel
theorem dX3_readWord_14 : decode cX3_readWord 14 = .ok (.astore_n 3, 1) := by decide +kernel
theorem dX3_readWord_15 : decode cX3_readWord 15 = .ok (.aload_n 0, 1) := by decide +kernel
theorem dX3_readWord_16 : decode cX3_readWord 16 = .ok (.aload_n 3, 1) := by decide +kernel
theorem dX3_readWord_17 : decode cX3_readWord 17 = .ok (.invokevirtual 63, 3) := by decide +kernel
theorem dX3_readWord_20 : decode cX3_readWord 20 = .ok (.istore 4, 2) := by decide +kernel
theorem dX3_readWord_22 : decode cX3_readWord 22 = .ok (.iload 4, 2) := by decide +kernel
theorem dX3_readWord_24 : decode cX3_readWord 24 = .ok (.aload_n 3, 1) := by decide +kernel
theorem dX3_readWord_25 : decode cX3_readWord 25 = .ok (.invokevirtual 67, 3) := by decide +kernel
theorem dX3_readWord_28 : decode cX3_readWord 28 = .ok (.if_icmp .ne 16, 3) := by decide +kernel
theorem dX3_readWord_31 : decode cX3_readWord 31 = .ok (.aload_n 0, 1) := by decide +kernel
theorem dX3_readWord_32 : decode cX3_readWord 32 = .ok (.dup, 1) := by decide +kernel
theorem dX3_readWord_33 : decode cX3_readWord 33 = .ok (.getfield 32, 3) := by decide +kernel
theorem dX3_readWord_36 : decode cX3_readWord 36 = .ok (.iload 4, 2) := by decide +kernel
theorem dX3_readWord_38 : decode cX3_readWord 38 = .ok (.iadd, 1) := by decide +kernel
theorem dX3_readWord_39 : decode cX3_readWord 39 = .ok (.putfield 32, 3) := by decide +kernel
theorem dX3_readWord_42 : decode cX3_readWord 42 = .ok (.iload_n 2, 1) := by decide +kernel
theorem dX3_readWord_43 : decode cX3_readWord 43 = .ok (.ireturn, 1) := by decide +kernel
theorem dX3_readWord_44 : decode cX3_readWord 44 = .ok (.iload_n 1, 1) := by decide +kernel
theorem dX3_readWord_45 : decode cX3_readWord 45 = .ok (.iload 4, 2) := by decide +kernel
theorem dX3_readWord_47 : decode cX3_readWord 47 = .ok (.invokestatic 71, 3) := by decide +kernel
theorem dX3_readWord_50 : decode cX3_readWord 50 = .ok (.istore_n 1, 1) := by decide +kernel
theorem dX3_readWord_51 : decode cX3_readWord 51 = .ok (.iinc 2 1, 3) := by decide +kernel
theorem dX3_readWord_54 : decode cX3_readWord 54 = .ok (.goto (-50), 3) := by decide +kernel
theorem dX3_readWord_57 : decode cX3_readWord 57 = .ok (.aload_n 0, 1) := by decide +kernel
theorem dX3_readWord_58 : decode cX3_readWord 58 = .ok (.dup, 1) := by decide +kernel
theorem dX3_readWord_59 : decode cX3_readWord 59 = .ok (.getfield 32, 3) := by decide +kernel
theorem dX3_readWord_62 : decode cX3_readWord 62 = .ok (.iload_n 1, 1) := by decide +kernel
theorem dX3_readWord_63 : decode cX3_readWord 63 = .ok (.iadd, 1) := by decide +kernel
theorem dX3_readWord_64 : decode cX3_readWord 64 = .ok (.putfield 32, 3) := by decide +kernel
theorem dX3_readWord_67 : decode cX3_readWord 67 = .ok (.iconst (-1), 1) := by decide +kernel
theorem dX3_readWord_68 : decode cX3_readWord 68 = .ok (.ireturn, 1) := by decide +kernel
theorem dX3_matchedSigns_0 : decode cX3_matchedSigns 0 = .ok (.iconst 0, 1) := by decide +kernel
theorem dX3_matchedSigns_1 : decode cX3_matchedSigns 1 = .ok (.istore_n 2, 1) := by decide +kernel
theorem dX3_matchedSigns_2 : decode cX3_matchedSigns 2 = .ok (.iload_n 2, 1) := by decide +kernel
theorem dX3_matchedSigns_3 : decode cX3_matchedSigns 3 = .ok (.aload_n 1, 1) := by decide +kernel
theorem dX3_matchedSigns_4 : decode cX3_matchedSigns 4 = .ok (.invokevirtual 67, 3) := by decide +kernel
theorem dX3_matchedSigns_7 : decode cX3_matchedSigns 7 = .ok (.if_icmp .ge 41, 3) := by decide +kernel
theorem dX3_matchedSigns_10 : decode cX3_matchedSigns 10 = .ok (.aload_n 0, 1) := by decide +kernel
theorem dX3_matchedSigns_11 : decode cX3_matchedSigns 11 = .ok (.getfield 32, 3) := by decide +kernel
theorem dX3_matchedSigns_14 : decode cX3_matchedSigns 14 = .ok (.iload_n 2, 1) := by decide +kernel
theorem dX3_matchedSigns_15 : decode cX3_matchedSigns 15 = .ok (.iadd, 1) := by decide +kernel
theorem dX3_matchedSigns_16 : decode cX3_matchedSigns 16 = .ok (.aload_n 0, 1) := by decide +kernel
theorem dX3_matchedSigns_17 : decode cX3_matchedSigns 17 = .ok (.getfield 24, 3) := by decide +kernel
theorem dX3_matchedSigns_20 : decode cX3_matchedSigns 20 = .ok (.if_icmp .ge 28, 3) := by decide +kernel
theorem dX3_matchedSigns_23 : decode cX3_matchedSigns 23 = .ok (.aload_n 0, 1) := by decide +kernel
theorem dX3_matchedSigns_24 : decode cX3_matchedSigns 24 = .ok (.getfield 9, 3) := by decide +kernel
theorem dX3_matchedSigns_27 : decode cX3_matchedSigns 27 = .ok (.aload_n 0, 1) := by decide +kernel
theorem dX3_matchedSigns_28 : decode cX3_matchedSigns 28 = .ok (.getfield 32, 3) := by decide +kernel
theorem dX3_matchedSigns_31 : decode cX3_matchedSigns 31 = .ok (.iload_n 2, 1) := by decide +kernel
theorem dX3_matchedSigns_32 : decode cX3_matchedSigns 32 = .ok (.iadd, 1) := by decide +kernel
theorem dX3_matchedSigns_33 : decode cX3_matchedSigns 33 = .ok (.caload, 1) := by decide +kernel
theorem dX3_matchedSigns_34 : decode cX3_matchedSigns 34 = .ok (.aload_n 1, 1) := by decide +kernel
theorem dX3_matchedSigns_35 : decode cX3_matchedSigns 35 = .ok (.iload_n 2, 1) := by decide +kernel
theorem dX3_matchedSigns_36 : decode cX3_matchedSigns 36 = .ok (.invokevirtual 77, 3) := by decide +kernel
theorem dX3_matchedSigns_39 : decode cX3_matchedSigns 39 = .ok (.if_icmp .ne 9, 3) := by decide +kernel
theorem dX3_matchedSigns_42 : decode cX3_matchedSigns 42 = .ok (.iinc 2 1, 3) := by decide +kernel
theorem dX3_matchedSigns_45 : decode cX3_matchedSigns 45 = .ok (.goto (-43), 3) := by decide +kernel
theorem dX3_matchedSigns_48 : decode cX3_matchedSigns 48 = .ok (.iload_n 2, 1) := by decide +kernel
theorem dX3_matchedSigns_49 : decode cX3_matchedSigns 49 = .ok (.ireturn, 1) := by decide +kernel
theorem dX3_readSign_0 : decode cX3_readSign 0 = .ok (.aload_n 0, 1) := by decide +kernel
theorem dX3_readSign_1 : decode cX3_readSign 1 = .ok (.getfield 32, 3) := by decide +kernel
theorem dX3_readSign_4 : decode cX3_readSign 4 = .ok (.aload_n 0, 1) := by decide +kernel
theorem dX3_readSign_5 : decode cX3_readSign 5 = .ok (.getfield 24, 3) := by decide +kernel
theorem dX3_readSign_8 : decode cX3_readSign 8 = .ok (.if_icmp .ge 16, 3) := by decide +kernel
theorem dX3_readSign_11 : decode cX3_readSign 11 = .ok (.aload_n 0, 1) := by decide +kernel
theorem dX3_readSign_12 : decode cX3_readSign 12 = .ok (.getfield 9, 3) := by decide +kernel
theorem dX3_readSign_15 : decode cX3_readSign 15 = .ok (.aload_n 0, 1) := by decide +kernel
theorem dX3_readSign_16 : decode cX3_readSign 16 = .ok (.getfield 32, 3) := by decide +kernel
theorem dX3_readSign_19 : decode cX3_readSign 19 = .ok (.caload, 1) := by decide +kernel
theorem dX3_readSign_20 : decode cX3_readSign 20 = .ok (.iload_n 1, 1) := by decide +kernel
theorem dX3_readSign_21 : decode cX3_readSign 21 = .ok (.if_icmp .eq 5, 3) := by decide +kernel
theorem dX3_readSign_24 : decode cX3_readSign 24 = .ok (.iconst 0, 1) := by decide +kernel
theorem dX3_readSign_25 : decode cX3_readSign 25 = .ok (.ireturn, 1) := by decide +kernel
theorem dX3_readSign_26 : decode cX3_readSign 26 = .ok (.aload_n 0, 1) := by decide +kernel
theorem dX3_readSign_27 : decode cX3_readSign 27 = .ok (.dup, 1) := by decide +kernel
theorem dX3_readSign_28 : decode cX3_readSign 28 = .ok (.getfield 32, 3) := by decide +kernel
theorem dX3_readSign_31 : decode cX3_readSign 31 = .ok (.iconst 1, 1) := by decide +kernel
theorem dX3_readSign_32 : decode cX3_readSign 32 = .ok (.iadd, 1) := by decide +kernel
theorem dX3_readSign_33 : decode cX3_readSign 33 = .ok (.putfield 32, 3) := by decide +kernel
theorem dX3_readSign_36 : decode cX3_readSign 36 = .ok (.iconst 1, 1) := by decide +kernel
theorem dX3_readSign_37 : decode cX3_readSign 37 = .ok (.ireturn, 1) := by decide +kernel
theorem dX3_readNumber_0 : decode cX3_readNumber 0 = .ok (.aload_n 0, 1) := by decide +kernel
theorem dX3_readNumber_1 : decode cX3_readNumber 1 = .ok (.invokevirtual 81, 3) := by decide +kernel
theorem dX3_readNumber_4 : decode cX3_readNumber 4 = .ok (.ifCond .ne 5, 3) := by decide +kernel
theorem dX3_readNumber_7 : decode cX3_readNumber 7 = .ok (.iconst (-1), 1) := by decide +kernel
theorem dX3_readNumber_8 : decode cX3_readNumber 8 = .ok (.ireturn, 1) := by decide +kernel
theorem dX3_readNumber_9 : decode cX3_readNumber 9 = .ok (.iconst 0, 1) := by decide +kernel
theorem dX3_readNumber_10 : decode cX3_readNumber 10 = .ok (.istore_n 2, 1) := by decide +kernel
theorem dX3_readNumber_11 : decode cX3_readNumber 11 = .ok (.iconst 0, 1) := by decide +kernel
theorem dX3_readNumber_12 : decode cX3_readNumber 12 = .ok (.istore_n 3, 1) := by decide +kernel
theorem dX3_readNumber_13 : decode cX3_readNumber 13 = .ok (.iload_n 3, 1) := by decide +kernel
theorem dX3_readNumber_14 : decode cX3_readNumber 14 = .ok (.iload_n 1, 1) := by decide +kernel
theorem dX3_readNumber_15 : decode cX3_readNumber 15 = .ok (.if_icmp .ge 44, 3) := by decide +kernel
theorem dX3_readNumber_18 : decode cX3_readNumber 18 = .ok (.aload_n 0, 1) := by decide +kernel
theorem dX3_readNumber_19 : decode cX3_readNumber 19 = .ok (.invokevirtual 81, 3) := by decide +kernel
theorem dX3_readNumber_22 : decode cX3_readNumber 22 = .ok (.ifCond .eq 37, 3) := by decide +kernel
theorem dX3_readNumber_25 : decode cX3_readNumber 25 = .ok (.iload_n 2, 1) := by decide +kernel
theorem dX3_readNumber_26 : decode cX3_readNumber 26 = .ok (.bipush 10, 2) := by decide +kernel
theorem dX3_readNumber_28 : decode cX3_readNumber 28 = .ok (.imul, 1) := by decide +kernel
theorem dX3_readNumber_29 : decode cX3_readNumber 29 = .ok (.aload_n 0, 1) := by decide +kernel
theorem dX3_readNumber_30 : decode cX3_readNumber 30 = .ok (.getfield 9, 3) := by decide +kernel
theorem dX3_readNumber_33 : decode cX3_readNumber 33 = .ok (.aload_n 0, 1) := by decide +kernel
theorem dX3_readNumber_34 : decode cX3_readNumber 34 = .ok (.getfield 32, 3) := by decide +kernel
theorem dX3_readNumber_37 : decode cX3_readNumber 37 = .ok (.caload, 1) := by decide +kernel
theorem dX3_readNumber_38 : decode cX3_readNumber 38 = .ok (.bipush 48, 2) := by decide +kernel
theorem dX3_readNumber_40 : decode cX3_readNumber 40 = .ok (.isub, 1) := by decide +kernel
theorem dX3_readNumber_41 : decode cX3_readNumber 41 = .ok (.iadd, 1) := by decide +kernel
theorem dX3_readNumber_42 : decode cX3_readNumber 42 = .ok (.istore_n 2, 1) := by decide +kernel
theorem dX3_readNumber_43 : decode cX3_readNumber 43 = .ok (.aload_n 0, 1) := by decide +kernel
theorem dX3_readNumber_44 : decode cX3_readNumber 44 = .ok (.dup, 1) := by decide +kernel
theorem dX3_readNumber_45 : decode cX3_readNumber 45 = .ok (.getfield 32, 3) := by decide +kernel
theorem dX3_readNumber_48 : decode cX3_readNumber 48 = .ok (.iconst 1, 1) := by decide +kernel
theorem dX3_readNumber_49 : decode cX3_readNumber 49 = .ok (.iadd, 1) := by decide +kernel
theorem dX3_readNumber_50 : decode cX3_readNumber 50 = .ok (.putfield 32, 3) := by decide +kernel
theorem dX3_readNumber_53 : decode cX3_readNumber 53 = .ok (.iinc 3 1, 3) := by decide +kernel
theorem dX3_readNumber_56 : decode cX3_readNumber 56 = .ok (.goto (-43), 3) := by decide +kernel
theorem dX3_readNumber_59 : decode cX3_readNumber 59 = .ok (.iload_n 2, 1) := by decide +kernel
theorem dX3_readNumber_60 : decode cX3_readNumber 60 = .ok (.ireturn, 1) := by decide +kernel
theorem dX3_isAtDigit_0 : decode cX3_isAtDigit 0 = .ok (.aload_n 0, 1) := by decide +kernel
theorem dX3_isAtDigit_1 : decode cX3_isAtDigit 1 = .ok (.getfield 32, 3) := by decide +kernel
theorem dX3_isAtDigit_4 : decode cX3_isAtDigit 4 = .ok (.aload_n 0, 1) := by decide +kernel
theorem dX3_isAtDigit_5 : decode cX3_isAtDigit 5 = .ok (.getfield 24, 3) := by decide +kernel
theorem dX3_isAtDigit_8 : decode cX3_isAtDigit 8 = .ok (.if_icmp .ge 35, 3) := by decide +kernel
theorem dX3_isAtDigit_11 : decode cX3_isAtDigit 11 = .ok (.aload_n 0, 1) := by decide +kernel
theorem dX3_isAtDigit_12 : decode cX3_isAtDigit 12 = .ok (.getfield 9, 3) := by decide +kernel
theorem dX3_isAtDigit_15 : decode cX3_isAtDigit 15 = .ok (.aload_n 0, 1) := by decide +kernel
theorem dX3_isAtDigit_16 : decode cX3_isAtDigit 16 = .ok (.getfield 32, 3) := by decide +kernel
theorem dX3_isAtDigit_19 : decode cX3_isAtDigit 19 = .ok (.caload, 1) := by decide +kernel
theorem dX3_isAtDigit_20 : decode cX3_isAtDigit 20 = .ok (.bipush 48, 2) := by decide +kernel
theorem dX3_isAtDigit_22 : decode cX3_isAtDigit 22 = .ok (.if_icmp .lt 21, 3) := by decide +kernel
theorem dX3_isAtDigit_25 : decode cX3_isAtDigit 25 = .ok (.aload_n 0, 1) := by decide +kernel
theorem dX3_isAtDigit_26 : decode cX3_isAtDigit 26 = .ok (.getfield 9, 3) := by decide +kernel
theorem dX3_isAtDigit_29 : decode cX3_isAtDigit 29 = .ok (.aload_n 0, 1) := by decide +kernel
theorem dX3_isAtDigit_30 : decode cX3_isAtDigit 30 = .ok (.getfield 32, 3) := by decide +kernel
theorem dX3_isAtDigit_33 : decode cX3_isAtDigit 33 = .ok (.caload, 1) := by decide +kernel
theorem dX3_isAtDigit_34 : decode cX3_isAtDigit 34 = .ok (.bipush 57, 2) := by decide +kernel
theorem dX3_isAtDigit_36 : decode cX3_isAtDigit 36 = .ok (.if_icmp .gt 7, 3) := by decide +kernel
theorem dX3_isAtDigit_39 : decode cX3_isAtDigit 39 = .ok (.iconst 1, 1) := by decide +kernel
theorem dX3_isAtDigit_40 : decode cX3_isAtDigit 40 = .ok (.goto 4, 3) := by decide +kernel
theorem dX3_isAtDigit_43 : decode cX3_isAtDigit 43 = .ok (.iconst 0, 1) := by decide +kernel
theorem dX3_isAtDigit_44 : decode cX3_isAtDigit 44 = .ok (.ireturn, 1) := by decide +kernel
theorem dX3_wordOf_0 : decode cX3_wordOf 0 = .ok (.iload_n 0, 1) := by decide +kernel
theorem dX3_wordOf_1 : decode cX3_wordOf 1 = .ok (.tableswitch 57 0 5 #[39, 42, 45, 48, 51, 54], 39) := by decide +kernel
theorem dX3_wordOf_40 : decode cX3_wordOf 40 = .ok (.ldc 84, 2) := by decide +kernel
theorem dX3_wordOf_42 : decode cX3_wordOf 42 = .ok (.areturn, 1) := by decide +kernel
theorem dX3_wordOf_43 : decode cX3_wordOf 43 = .ok (.ldc 86, 2) := by decide +kernel
theorem dX3_wordOf_45 : decode cX3_wordOf 45 = .ok (.areturn, 1) := by decide +kernel
theorem dX3_wordOf_46 : decode cX3_wordOf 46 = .ok (.ldc 88, 2) := by decide +kernel
theorem dX3_wordOf_48 : decode cX3_wordOf 48 = .ok (.areturn, 1) := by decide +kernel
theorem dX3_wordOf_49 : decode cX3_wordOf 49 = .ok (.ldc 90, 2) := by decide +kernel
theorem dX3_wordOf_51 : decode cX3_wordOf 51 = .ok (.areturn, 1) := by decide +kernel
theorem dX3_wordOf_52 : decode cX3_wordOf 52 = .ok (.ldc 92, 2) := by decide +kernel
theorem dX3_wordOf_54 : decode cX3_wordOf 54 = .ok (.areturn, 1) := by decide +kernel
theorem dX3_wordOf_55 : decode cX3_wordOf 55 = .ok (.ldc 94, 2) := by decide +kernel
theorem dX3_wordOf_57 : decode cX3_wordOf 57 = .ok (.areturn, 1) := by decide +kernel
theorem dX3_wordOf_58 : decode cX3_wordOf 58 = .ok (.ldc 96, 2) := by decide +kernel
theorem dX3_wordOf_60 : decode cX3_wordOf 60 = .ok (.areturn, 1) := by decide +kernel
theorem dX3_numbersOf_0 : decode cX3_numbersOf 0 = .ok (.iload_n 0, 1) := by decide +kernel
theorem dX3_numbersOf_1 : decode cX3_numbersOf 1 = .ok (.tableswitch 43 0 5 #[39, 43, 41, 41, 43, 41], 39) := by decide +kernel
theorem dX3_numbersOf_40 : decode cX3_numbersOf 40 = .ok (.iconst 3, 1) := by decide +kernel
theorem dX3_numbersOf_41 : decode cX3_numbersOf 41 = .ok (.ireturn, 1) := by decide +kernel
theorem dX3_numbersOf_42 : decode cX3_numbersOf 42 = .ok (.iconst 2, 1) := by decide +kernel
theorem dX3_numbersOf_43 : decode cX3_numbersOf 43 = .ok (.ireturn, 1) := by decide +kernel
theorem dX3_numbersOf_44 : decode cX3_numbersOf 44 = .ok (.iconst 1, 1) := by decide +kernel
theorem dX3_numbersOf_45 : decode cX3_numbersOf 45 = .ok (.ireturn, 1) := by decide +kernel
theorem dX3_digitsOf_0 : decode cX3_digitsOf 0 = .ok (.iload_n 0, 1) := by decide +kernel
theorem dX3_digitsOf_1 : decode cX3_digitsOf 1 = .ok (.bipush 6, 2) := by decide +kernel
theorem dX3_digitsOf_3 : decode cX3_digitsOf 3 = .ok (.if_icmp .ne 7, 3) := by decide +kernel
theorem dX3_digitsOf_6 : decode cX3_digitsOf 6 = .ok (.iconst 1, 1) := by decide +kernel
theorem dX3_digitsOf_7 : decode cX3_digitsOf 7 = .ok (.goto 4, 3) := by decide +kernel
theorem dX3_digitsOf_10 : decode cX3_digitsOf 10 = .ok (.iconst 2, 1) := by decide +kernel
theorem dX3_digitsOf_11 : decode cX3_digitsOf 11 = .ok (.ireturn, 1) := by decide +kernel
theorem dX4_init_0 : decode cX4_init 0 = .ok (.aload_n 0, 1) := by decide +kernel
theorem dX4_init_1 : decode cX4_init 1 = .ok (.invokespecial 3, 3) := by decide +kernel
theorem dX4_init_4 : decode cX4_init 4 = .ok (.aload_n 0, 1) := by decide +kernel
theorem dX4_init_5 : decode cX4_init 5 = .ok (.bipush 12, 2) := by decide +kernel
theorem dX4_init_7 : decode cX4_init 7 = .ok (.newarray .int, 2) := by decide +kernel
theorem dX4_init_9 : decode cX4_init 9 = .ok (.putfield 9, 3) := by decide +kernel
theorem dX4_init_12 : decode cX4_init 12 = .ok (.return_, 1) := by decide +kernel
theorem dX4_copyFrom_0 : decode cX4_copyFrom 0 = .ok (.iconst 0, 1) := by decide +kernel
theorem dX4_copyFrom_1 : decode cX4_copyFrom 1 = .ok (.istore_n 2, 1) := by decide +kernel
theorem dX4_copyFrom_2 : decode cX4_copyFrom 2 = .ok (.iload_n 2, 1) := by decide +kernel
theorem dX4_copyFrom_3 : decode cX4_copyFrom 3 = .ok (.bipush 12, 2) := by decide +kernel
theorem dX4_copyFrom_5 : decode cX4_copyFrom 5 = .ok (.if_icmp .ge 21, 3) := by decide +kernel
theorem dX4_copyFrom_8 : decode cX4_copyFrom 8 = .ok (.aload_n 0, 1) := by decide +kernel
theorem dX4_copyFrom_9 : decode cX4_copyFrom 9 = .ok (.getfield 9, 3) := by decide +kernel
theorem dX4_copyFrom_12 : decode cX4_copyFrom 12 = .ok (.iload_n 2, 1) := by decide +kernel
theorem dX4_copyFrom_13 : decode cX4_copyFrom 13 = .ok (.aload_n 1, 1) := by decide +kernel
theorem dX4_copyFrom_14 : decode cX4_copyFrom 14 = .ok (.getfield 9, 3) := by decide +kernel
theorem dX4_copyFrom_17 : decode cX4_copyFrom 17 = .ok (.iload_n 2, 1) := by decide +kernel
theorem dX4_copyFrom_18 : decode cX4_copyFrom 18 = .ok (.iaload, 1) := by decide +kernel
theorem dX4_copyFrom_19 : decode cX4_copyFrom 19 = .ok (.iastore, 1) := by decide +kernel
theorem dX4_copyFrom_20 : decode cX4_copyFrom 20 = .ok (.iinc 2 1, 3) := by decide +kernel
theorem dX4_copyFrom_23 : decode cX4_copyFrom 23 = .ok (.goto (-21), 3) := by decide +kernel
theorem dX4_copyFrom_26 : decode cX4_copyFrom 26 = .ok (.aload_n 0, 1) := by decide +kernel
theorem dX4_copyFrom_27 : decode cX4_copyFrom 27 = .ok (.aload_n 1, 1) := by decide +kernel
theorem dX4_copyFrom_28 : decode cX4_copyFrom 28 = .ok (.getfield 15, 3) := by decide +kernel
theorem dX4_copyFrom_31 : decode cX4_copyFrom 31 = .ok (.putfield 15, 3) := by decide +kernel
theorem dX4_copyFrom_34 : decode cX4_copyFrom 34 = .ok (.aload_n 0, 1) := by decide +kernel
theorem dX4_copyFrom_35 : decode cX4_copyFrom 35 = .ok (.aload_n 1, 1) := by decide +kernel
theorem dX4_copyFrom_36 : decode cX4_copyFrom 36 = .ok (.getfield 19, 3) := by decide +kernel
theorem dX4_copyFrom_39 : decode cX4_copyFrom 39 = .ok (.putfield 19, 3) := by decide +kernel
theorem dX4_copyFrom_42 : decode cX4_copyFrom 42 = .ok (.return_, 1) := by decide +kernel
theorem dX4_receive_0 : decode cX4_receive 0 = .ok (.aload_n 0, 1) := by decide +kernel
theorem dX4_receive_1 : decode cX4_receive 1 = .ok (.getfield 9, 3) := by decide +kernel
theorem dX4_receive_4 : decode cX4_receive 4 = .ok (.iload_n 1, 1) := by decide +kernel
theorem dX4_receive_5 : decode cX4_receive 5 = .ok (.bipush 12, 2) := by decide +kernel
theorem dX4_receive_7 : decode cX4_receive 7 = .ok (.invokestatic 22, 3) := by decide +kernel
theorem dX4_receive_10 : decode cX4_receive 10 = .ok (.dup2, 1) := by decide +kernel
theorem dX4_receive_11 : decode cX4_receive 11 = .ok (.iaload, 1) := by decide +kernel
theorem dX4_receive_12 : decode cX4_receive 12 = .ok (.iload_n 2, 1) := by decide +kernel
theorem dX4_receive_13 : decode cX4_receive 13 = .ok (.iadd, 1) := by decide +kernel
theorem dX4_receive_14 : decode cX4_receive 14 = .ok (.iastore, 1) := by decide +kernel
theorem dX4_receive_15 : decode cX4_receive 15 = .ok (.aload_n 0, 1) := by decide +kernel
theorem dX4_receive_16 : decode cX4_receive 16 = .ok (.dup, 1) := by decide +kernel
theorem dX4_receive_17 : decode cX4_receive 17 = .ok (.getfield 15, 3) := by decide +kernel
theorem dX4_receive_20 : decode cX4_receive 20 = .ok (.iload_n 2, 1) := by decide +kernel
theorem dX4_receive_21 : decode cX4_receive 21 = .ok (.iadd, 1) := by decide +kernel
theorem dX4_receive_22 : decode cX4_receive 22 = .ok (.putfield 15, 3) := by decide +kernel
theorem dX4_receive_25 : decode cX4_receive 25 = .ok (.return_, 1) := by decide +kernel
theorem dX4_dustOf_0 : decode cX4_dustOf 0 = .ok (.iconst 0, 1) := by decide +kernel
theorem dX4_dustOf_1 : decode cX4_dustOf 1 = .ok (.istore_n 3, 1) := by decide +kernel
theorem dX4_dustOf_2 : decode cX4_dustOf 2 = .ok (.iconst 0, 1) := by decide +kernel
theorem dX4_dustOf_3 : decode cX4_dustOf 3 = .ok (.istore 4, 2) := by decide +kernel
theorem dX4_dustOf_5 : decode cX4_dustOf 5 = .ok (.iload 4, 2) := by decide +kernel
theorem dX4_dustOf_7 : decode cX4_dustOf 7 = .ok (.iload_n 2, 1) := by decide +kernel
theorem dX4_dustOf_8 : decode cX4_dustOf 8 = .ok (.if_icmp .ge 26, 3) := by decide +kernel
theorem dX4_dustOf_11 : decode cX4_dustOf 11 = .ok (.iload_n 3, 1) := by decide +kernel
theorem dX4_dustOf_12 : decode cX4_dustOf 12 = .ok (.aload_n 0, 1) := by decide +kernel
theorem dX4_dustOf_13 : decode cX4_dustOf 13 = .ok (.getfield 9, 3) := by decide +kernel
theorem dX4_dustOf_16 : decode cX4_dustOf 16 = .ok (.iload_n 1, 1) := by decide +kernel
theorem dX4_dustOf_17 : decode cX4_dustOf 17 = .ok (.iload 4, 2) := by decide +kernel
theorem dX4_dustOf_19 : decode cX4_dustOf 19 = .ok (.iadd, 1) := by decide +kernel
theorem dX4_dustOf_20 : decode cX4_dustOf 20 = .ok (.bipush 12, 2) := by decide +kernel
theorem dX4_dustOf_22 : decode cX4_dustOf 22 = .ok (.invokestatic 22, 3) := by decide +kernel
theorem dX4_dustOf_25 : decode cX4_dustOf 25 = .ok (.iaload, 1) := by decide +kernel
theorem dX4_dustOf_26 : decode cX4_dustOf 26 = .ok (.iadd, 1) := by decide +kernel
theorem dX4_dustOf_27 : decode cX4_dustOf 27 = .ok (.istore_n 3, 1) := by decide +kernel
theorem dX4_dustOf_28 : decode cX4_dustOf 28 = .ok (.iinc 4 1, 3) := by decide +kernel
theorem dX4_dustOf_31 : decode cX4_dustOf 31 = .ok (.goto (-26), 3) := by decide +kernel
theorem dX4_dustOf_34 : decode cX4_dustOf 34 = .ok (.iload_n 3, 1) := by decide +kernel
theorem dX4_dustOf_35 : decode cX4_dustOf 35 = .ok (.ireturn, 1) := by decide +kernel
theorem dX4_gainOf_0 : decode cX4_gainOf 0 = .ok (.aload_n 0, 1) := by decide +kernel
theorem dX4_gainOf_1 : decode cX4_gainOf 1 = .ok (.iload_n 1, 1) := by decide +kernel
theorem dX4_gainOf_2 : decode cX4_gainOf 2 = .ok (.iload_n 2, 1) := by decide +kernel
theorem dX4_gainOf_3 : decode cX4_gainOf 3 = .ok (.invokevirtual 28, 3) := by decide +kernel
theorem dX4_gainOf_6 : decode cX4_gainOf 6 = .ok (.iload_n 3, 1) := by decide +kernel
theorem dX4_gainOf_7 : decode cX4_gainOf 7 = .ok (.iload_n 2, 1) := by decide +kernel
theorem dX4_gainOf_8 : decode cX4_gainOf 8 = .ok (.imul, 1) := by decide +kernel
theorem dX4_gainOf_9 : decode cX4_gainOf 9 = .ok (.isub, 1) := by decide +kernel
theorem dX4_gainOf_10 : decode cX4_gainOf 10 = .ok (.ireturn, 1) := by decide +kernel
theorem dX4_empty_0 : decode cX4_empty 0 = .ok (.aload_n 0, 1) := by decide +kernel
theorem dX4_empty_1 : decode cX4_empty 1 = .ok (.iload_n 1, 1) := by decide +kernel
theorem dX4_empty_2 : decode cX4_empty 2 = .ok (.iload_n 2, 1) := by decide +kernel
theorem dX4_empty_3 : decode cX4_empty 3 = .ok (.invokevirtual 28, 3) := by decide +kernel
theorem dX4_empty_6 : decode cX4_empty 6 = .ok (.istore_n 3, 1) := by decide +kernel
theorem dX4_empty_7 : decode cX4_empty 7 = .ok (.iconst 0, 1) := by decide +kernel
theorem dX4_empty_8 : decode cX4_empty 8 = .ok (.istore 4, 2) := by decide +kernel
theorem dX4_empty_10 : decode cX4_empty 10 = .ok (.iload 4, 2) := by decide +kernel
theorem dX4_empty_12 : decode cX4_empty 12 = .ok (.iload_n 2, 1) := by decide +kernel
theorem dX4_empty_13 : decode cX4_empty 13 = .ok (.if_icmp .ge 24, 3) := by decide +kernel
theorem dX4_empty_16 : decode cX4_empty 16 = .ok (.aload_n 0, 1) := by decide +kernel
theorem dX4_empty_17 : decode cX4_empty 17 = .ok (.getfield 9, 3) := by decide +kernel
theorem dX4_empty_20 : decode cX4_empty 20 = .ok (.iload_n 1, 1) := by decide +kernel
theorem dX4_empty_21 : decode cX4_empty 21 = .ok (.iload 4, 2) := by decide +kernel
theorem dX4_empty_23 : decode cX4_empty 23 = .ok (.iadd, 1) := by decide +kernel
theorem dX4_empty_24 : decode cX4_empty 24 = .ok (.bipush 12, 2) := by decide +kernel
theorem dX4_empty_26 : decode cX4_empty 26 = .ok (.invokestatic 22, 3) := by decide +kernel
theorem dX4_empty_29 : decode cX4_empty 29 = .ok (.iconst 0, 1) := by decide +kernel
theorem dX4_empty_30 : decode cX4_empty 30 = .ok (.iastore, 1) := by decide +kernel
theorem dX4_empty_31 : decode cX4_empty 31 = .ok (.iinc 4 1, 3) := by decide +kernel
theorem dX4_empty_34 : decode cX4_empty 34 = .ok (.goto (-24), 3) := by decide +kernel
theorem dX4_empty_37 : decode cX4_empty 37 = .ok (.aload_n 0, 1) := by decide +kernel
theorem dX4_empty_38 : decode cX4_empty 38 = .ok (.dup, 1) := by decide +kernel
theorem dX4_empty_39 : decode cX4_empty 39 = .ok (.getfield 19, 3) := by decide +kernel
theorem dX4_empty_42 : decode cX4_empty 42 = .ok (.iload_n 3, 1) := by decide +kernel
theorem dX4_empty_43 : decode cX4_empty 43 = .ok (.iadd, 1) := by decide +kernel
theorem dX4_empty_44 : decode cX4_empty 44 = .ok (.putfield 19, 3) := by decide +kernel
theorem dX4_empty_47 : decode cX4_empty 47 = .ok (.iload_n 3, 1) := by decide +kernel
theorem dX4_empty_48 : decode cX4_empty 48 = .ok (.ireturn, 1) := by decide +kernel
theorem dX4_dustyPlaces_0 : decode cX4_dustyPlaces 0 = .ok (.iconst 0, 1) := by decide +kernel
theorem dX4_dustyPlaces_1 : decode cX4_dustyPlaces 1 = .ok (.istore_n 1, 1) := by decide +kernel
theorem dX4_dustyPlaces_2 : decode cX4_dustyPlaces 2 = .ok (.iconst 0, 1) := by decide +kernel
theorem dX4_dustyPlaces_3 : decode cX4_dustyPlaces 3 = .ok (.istore_n 2, 1) := by decide +kernel
theorem dX4_dustyPlaces_4 : decode cX4_dustyPlaces 4 = .ok (.iload_n 2, 1) := by decide +kernel
theorem dX4_dustyPlaces_5 : decode cX4_dustyPlaces 5 = .ok (.bipush 12, 2) := by decide +kernel
theorem dX4_dustyPlaces_7 : decode cX4_dustyPlaces 7 = .ok (.if_icmp .ge 21, 3) := by decide +kernel
theorem dX4_dustyPlaces_10 : decode cX4_dustyPlaces 10 = .ok (.aload_n 0, 1) := by decide +kernel
theorem dX4_dustyPlaces_11 : decode cX4_dustyPlaces 11 = .ok (.getfield 9, 3) := by decide +kernel
theorem dX4_dustyPlaces_14 : decode cX4_dustyPlaces 14 = .ok (.iload_n 2, 1) := by decide +kernel
theorem dX4_dustyPlaces_15 : decode cX4_dustyPlaces 15 = .ok (.iaload, 1) := by decide +kernel
theorem dX4_dustyPlaces_16 : decode cX4_dustyPlaces 16 = .ok (.ifCond .le 6, 3) := by decide +kernel
theorem dX4_dustyPlaces_19 : decode cX4_dustyPlaces 19 = .ok (.iinc 1 1, 3) := by decide +kernel
theorem dX4_dustyPlaces_22 : decode cX4_dustyPlaces 22 = .ok (.iinc 2 1, 3) := by decide +kernel
theorem dX4_dustyPlaces_25 : decode cX4_dustyPlaces 25 = .ok (.goto (-21), 3) := by decide +kernel
theorem dX4_dustyPlaces_28 : decode cX4_dustyPlaces 28 = .ok (.iload_n 1, 1) := by decide +kernel
theorem dX4_dustyPlaces_29 : decode cX4_dustyPlaces 29 = .ok (.ireturn, 1) := by decide +kernel
theorem dX4_greatestGainByRunningSums_0 : decode cX4_greatestGainByRunningSums 0 = .ok (.aload_n 0, 1) := by decide +kernel
theorem dX4_greatestGainByRunningSums_1 : decode cX4_greatestGainByRunningSums 1 = .ok (.getfield 9, 3) := by decide +kernel
theorem dX4_greatestGainByRunningSums_4 : decode cX4_greatestGainByRunningSums 4 = .ok (.iconst 0, 1) := by decide +kernel
theorem dX4_greatestGainByRunningSums_5 : decode cX4_greatestGainByRunningSums 5 = .ok (.iaload, 1) := by decide +kernel
theorem dX4_greatestGainByRunningSums_6 : decode cX4_greatestGainByRunningSums 6 = .ok (.iload_n 1, 1) := by decide +kernel
theorem dX4_greatestGainByRunningSums_7 : decode cX4_greatestGainByRunningSums 7 = .ok (.isub, 1) := by decide +kernel
theorem dX4_greatestGainByRunningSums_8 : decode cX4_greatestGainByRunningSums 8 = .ok (.istore_n 2, 1) := by decide +kernel
theorem dX4_greatestGainByRunningSums_9 : decode cX4_greatestGainByRunningSums 9 = .ok (.iload_n 2, 1) := by decide +kernel
theorem dX4_greatestGainByRunningSums_10 : decode cX4_greatestGainByRunningSums 10 = .ok (.istore_n 3, 1) := by decide +kernel
theorem dX4_greatestGainByRunningSums_11 : decode cX4_greatestGainByRunningSums 11 = .ok (.iload_n 2, 1) := by decide +kernel
theorem dX4_greatestGainByRunningSums_12 : decode cX4_greatestGainByRunningSums 12 = .ok (.istore 4, 2) := by decide +kernel
theorem dX4_greatestGainByRunningSums_14 : decode cX4_greatestGainByRunningSums 14 = .ok (.iload_n 2, 1) := by decide +kernel
theorem dX4_greatestGainByRunningSums_15 : decode cX4_greatestGainByRunningSums 15 = .ok (.istore 5, 2) := by decide +kernel
theorem dX4_greatestGainByRunningSums_17 : decode cX4_greatestGainByRunningSums 17 = .ok (.iload_n 2, 1) := by decide +kernel
theorem dX4_greatestGainByRunningSums_18 : decode cX4_greatestGainByRunningSums 18 = .ok (.istore 6, 2) := by decide +kernel
theorem dX4_greatestGainByRunningSums_20 : decode cX4_greatestGainByRunningSums 20 = .ok (.iconst 1, 1) := by decide +kernel
theorem dX4_greatestGainByRunningSums_21 : decode cX4_greatestGainByRunningSums 21 = .ok (.istore 7, 2) := by decide +kernel
theorem dX4_greatestGainByRunningSums_23 : decode cX4_greatestGainByRunningSums 23 = .ok (.iload 7, 2) := by decide +kernel
theorem dX4_greatestGainByRunningSums_25 : decode cX4_greatestGainByRunningSums 25 = .ok (.bipush 12, 2) := by decide +kernel
theorem dX4_greatestGainByRunningSums_27 : decode cX4_greatestGainByRunningSums 27 = .ok (.if_icmp .ge 62, 3) := by decide +kernel
theorem dX4_greatestGainByRunningSums_30 : decode cX4_greatestGainByRunningSums 30 = .ok (.aload_n 0, 1) := by decide +kernel
theorem dX4_greatestGainByRunningSums_31 : decode cX4_greatestGainByRunningSums 31 = .ok (.getfield 9, 3) := by decide +kernel
theorem dX4_greatestGainByRunningSums_34 : decode cX4_greatestGainByRunningSums 34 = .ok (.iload 7, 2) := by decide +kernel
theorem dX4_greatestGainByRunningSums_36 : decode cX4_greatestGainByRunningSums 36 = .ok (.iaload, 1) := by decide +kernel
theorem dX4_greatestGainByRunningSums_37 : decode cX4_greatestGainByRunningSums 37 = .ok (.iload_n 1, 1) := by decide +kernel
theorem dX4_greatestGainByRunningSums_38 : decode cX4_greatestGainByRunningSums 38 = .ok (.isub, 1) := by decide +kernel
theorem dX4_greatestGainByRunningSums_39 : decode cX4_greatestGainByRunningSums 39 = .ok (.istore 8, 2) := by decide +kernel
theorem dX4_greatestGainByRunningSums_41 : decode cX4_greatestGainByRunningSums 41 = .ok (.iload_n 2, 1) := by decide +kernel
theorem dX4_greatestGainByRunningSums_42 : decode cX4_greatestGainByRunningSums 42 = .ok (.iload 8, 2) := by decide +kernel
theorem dX4_greatestGainByRunningSums_44 : decode cX4_greatestGainByRunningSums 44 = .ok (.iadd, 1) := by decide +kernel
theorem dX4_greatestGainByRunningSums_45 : decode cX4_greatestGainByRunningSums 45 = .ok (.istore_n 2, 1) := by decide +kernel
theorem dX4_greatestGainByRunningSums_46 : decode cX4_greatestGainByRunningSums 46 = .ok (.iload_n 3, 1) := by decide +kernel
theorem dX4_greatestGainByRunningSums_47 : decode cX4_greatestGainByRunningSums 47 = .ok (.iconst 0, 1) := by decide +kernel
theorem dX4_greatestGainByRunningSums_48 : decode cX4_greatestGainByRunningSums 48 = .ok (.invokestatic 31, 3) := by decide +kernel
theorem dX4_greatestGainByRunningSums_51 : decode cX4_greatestGainByRunningSums 51 = .ok (.iload 8, 2) := by decide +kernel
theorem dX4_greatestGainByRunningSums_53 : decode cX4_greatestGainByRunningSums 53 = .ok (.iadd, 1) := by decide +kernel
theorem dX4_greatestGainByRunningSums_54 : decode cX4_greatestGainByRunningSums 54 = .ok (.istore_n 3, 1) := by decide +kernel
theorem dX4_greatestGainByRunningSums_55 : decode cX4_greatestGainByRunningSums 55 = .ok (.iload 4, 2) := by decide +kernel
theorem dX4_greatestGainByRunningSums_57 : decode cX4_greatestGainByRunningSums 57 = .ok (.iload_n 3, 1) := by decide +kernel
theorem dX4_greatestGainByRunningSums_58 : decode cX4_greatestGainByRunningSums 58 = .ok (.invokestatic 31, 3) := by decide +kernel
theorem dX4_greatestGainByRunningSums_61 : decode cX4_greatestGainByRunningSums 61 = .ok (.istore 4, 2) := by decide +kernel
theorem dX4_greatestGainByRunningSums_63 : decode cX4_greatestGainByRunningSums 63 = .ok (.iload 5, 2) := by decide +kernel
theorem dX4_greatestGainByRunningSums_65 : decode cX4_greatestGainByRunningSums 65 = .ok (.iconst 0, 1) := by decide +kernel
theorem dX4_greatestGainByRunningSums_66 : decode cX4_greatestGainByRunningSums 66 = .ok (.invokestatic 34, 3) := by decide +kernel
theorem dX4_greatestGainByRunningSums_69 : decode cX4_greatestGainByRunningSums 69 = .ok (.iload 8, 2) := by decide +kernel
theorem dX4_greatestGainByRunningSums_71 : decode cX4_greatestGainByRunningSums 71 = .ok (.iadd, 1) := by decide +kernel
theorem dX4_greatestGainByRunningSums_72 : decode cX4_greatestGainByRunningSums 72 = .ok (.istore 5, 2) := by decide +kernel
theorem dX4_greatestGainByRunningSums_74 : decode cX4_greatestGainByRunningSums 74 = .ok (.iload 6, 2) := by decide +kernel
theorem dX4_greatestGainByRunningSums_76 : decode cX4_greatestGainByRunningSums 76 = .ok (.iload 5, 2) := by decide +kernel
theorem dX4_greatestGainByRunningSums_78 : decode cX4_greatestGainByRunningSums 78 = .ok (.invokestatic 34, 3) := by decide +kernel
theorem dX4_greatestGainByRunningSums_81 : decode cX4_greatestGainByRunningSums 81 = .ok (.istore 6, 2) := by decide +kernel
theorem dX4_greatestGainByRunningSums_83 : decode cX4_greatestGainByRunningSums 83 = .ok (.iinc 7 1, 3) := by decide +kernel
theorem dX4_greatestGainByRunningSums_86 : decode cX4_greatestGainByRunningSums 86 = .ok (.goto (-63), 3) := by decide +kernel
theorem dX4_greatestGainByRunningSums_89 : decode cX4_greatestGainByRunningSums 89 = .ok (.iload 4, 2) := by decide +kernel
theorem dX4_greatestGainByRunningSums_91 : decode cX4_greatestGainByRunningSums 91 = .ok (.ifCond .ge 8, 3) := by decide +kernel
theorem dX4_greatestGainByRunningSums_94 : decode cX4_greatestGainByRunningSums 94 = .ok (.iload 4, 2) := by decide +kernel
theorem dX4_greatestGainByRunningSums_96 : decode cX4_greatestGainByRunningSums 96 = .ok (.goto 12, 3) := by decide +kernel
theorem dX4_greatestGainByRunningSums_99 : decode cX4_greatestGainByRunningSums 99 = .ok (.iload 4, 2) := by decide +kernel
theorem dX4_greatestGainByRunningSums_101 : decode cX4_greatestGainByRunningSums 101 = .ok (.iload_n 2, 1) := by decide +kernel
theorem dX4_greatestGainByRunningSums_102 : decode cX4_greatestGainByRunningSums 102 = .ok (.iload 6, 2) := by decide +kernel
theorem dX4_greatestGainByRunningSums_104 : decode cX4_greatestGainByRunningSums 104 = .ok (.isub, 1) := by decide +kernel
theorem dX4_greatestGainByRunningSums_105 : decode cX4_greatestGainByRunningSums 105 = .ok (.invokestatic 31, 3) := by decide +kernel
theorem dX4_greatestGainByRunningSums_108 : decode cX4_greatestGainByRunningSums 108 = .ok (.ireturn, 1) := by decide +kernel
theorem dX4_seekBestArc_0 : decode cX4_seekBestArc 0 = .ok (.aload_n 0, 1) := by decide +kernel
theorem dX4_seekBestArc_1 : decode cX4_seekBestArc 1 = .ok (.aload_n 0, 1) := by decide +kernel
theorem dX4_seekBestArc_2 : decode cX4_seekBestArc 2 = .ok (.iconst 0, 1) := by decide +kernel
theorem dX4_seekBestArc_3 : decode cX4_seekBestArc 3 = .ok (.iconst 1, 1) := by decide +kernel
theorem dX4_seekBestArc_4 : decode cX4_seekBestArc 4 = .ok (.iload_n 1, 1) := by decide +kernel
theorem dX4_seekBestArc_5 : decode cX4_seekBestArc 5 = .ok (.invokevirtual 37, 3) := by decide +kernel
theorem dX4_seekBestArc_8 : decode cX4_seekBestArc 8 = .ok (.putfield 41, 3) := by decide +kernel
theorem dX4_seekBestArc_11 : decode cX4_seekBestArc 11 = .ok (.aload_n 0, 1) := by decide +kernel
theorem dX4_seekBestArc_12 : decode cX4_seekBestArc 12 = .ok (.iconst 0, 1) := by decide +kernel
theorem dX4_seekBestArc_13 : decode cX4_seekBestArc 13 = .ok (.putfield 44, 3) := by decide +kernel
theorem dX4_seekBestArc_16 : decode cX4_seekBestArc 16 = .ok (.aload_n 0, 1) := by decide +kernel
theorem dX4_seekBestArc_17 : decode cX4_seekBestArc 17 = .ok (.iconst 1, 1) := by decide +kernel
theorem dX4_seekBestArc_18 : decode cX4_seekBestArc 18 = .ok (.putfield 47, 3) := by decide +kernel
theorem dX4_seekBestArc_21 : decode cX4_seekBestArc 21 = .ok (.iconst 1, 1) := by decide +kernel
theorem dX4_seekBestArc_22 : decode cX4_seekBestArc 22 = .ok (.istore_n 2, 1) := by decide +kernel
theorem dX4_seekBestArc_23 : decode cX4_seekBestArc 23 = .ok (.iload_n 2, 1) := by decide +kernel
theorem dX4_seekBestArc_24 : decode cX4_seekBestArc 24 = .ok (.bipush 12, 2) := by decide +kernel
theorem dX4_seekBestArc_26 : decode cX4_seekBestArc 26 = .ok (.if_icmp .gt 57, 3) := by decide +kernel
theorem dX4_seekBestArc_29 : decode cX4_seekBestArc 29 = .ok (.iconst 0, 1) := by decide +kernel
theorem dX4_seekBestArc_30 : decode cX4_seekBestArc 30 = .ok (.istore_n 3, 1) := by decide +kernel
theorem dX4_seekBestArc_31 : decode cX4_seekBestArc 31 = .ok (.iload_n 3, 1) := by decide +kernel
theorem dX4_seekBestArc_32 : decode cX4_seekBestArc 32 = .ok (.bipush 12, 2) := by decide +kernel
theorem dX4_seekBestArc_34 : decode cX4_seekBestArc 34 = .ok (.if_icmp .ge 43, 3) := by decide +kernel
theorem dX4_seekBestArc_37 : decode cX4_seekBestArc 37 = .ok (.aload_n 0, 1) := by decide +kernel
theorem dX4_seekBestArc_38 : decode cX4_seekBestArc 38 = .ok (.iload_n 3, 1) := by decide +kernel
theorem dX4_seekBestArc_39 : decode cX4_seekBestArc 39 = .ok (.iload_n 2, 1) := by decide +kernel
theorem dX4_seekBestArc_40 : decode cX4_seekBestArc 40 = .ok (.iload_n 1, 1) := by decide +kernel
theorem dX4_seekBestArc_41 : decode cX4_seekBestArc 41 = .ok (.invokevirtual 37, 3) := by decide +kernel
theorem dX4_seekBestArc_44 : decode cX4_seekBestArc 44 = .ok (.istore 4, 2) := by decide +kernel
theorem dX4_seekBestArc_46 : decode cX4_seekBestArc 46 = .ok (.iload 4, 2) := by decide +kernel
theorem dX4_seekBestArc_48 : decode cX4_seekBestArc 48 = .ok (.aload_n 0, 1) := by decide +kernel
theorem dX4_seekBestArc_49 : decode cX4_seekBestArc 49 = .ok (.getfield 41, 3) := by decide +kernel
theorem dX4_seekBestArc_52 : decode cX4_seekBestArc 52 = .ok (.if_icmp .le 19, 3) := by decide +kernel
theorem dX4_seekBestArc_55 : decode cX4_seekBestArc 55 = .ok (.aload_n 0, 1) := by decide +kernel
theorem dX4_seekBestArc_56 : decode cX4_seekBestArc 56 = .ok (.iload 4, 2) := by decide +kernel
theorem dX4_seekBestArc_58 : decode cX4_seekBestArc 58 = .ok (.putfield 41, 3) := by decide +kernel
theorem dX4_seekBestArc_61 : decode cX4_seekBestArc 61 = .ok (.aload_n 0, 1) := by decide +kernel
theorem dX4_seekBestArc_62 : decode cX4_seekBestArc 62 = .ok (.iload_n 3, 1) := by decide +kernel
theorem dX4_seekBestArc_63 : decode cX4_seekBestArc 63 = .ok (.putfield 44, 3) := by decide +kernel
theorem dX4_seekBestArc_66 : decode cX4_seekBestArc 66 = .ok (.aload_n 0, 1) := by decide +kernel
theorem dX4_seekBestArc_67 : decode cX4_seekBestArc 67 = .ok (.iload_n 2, 1) := by decide +kernel
theorem dX4_seekBestArc_68 : decode cX4_seekBestArc 68 = .ok (.putfield 47, 3) := by decide +kernel
theorem dX4_seekBestArc_71 : decode cX4_seekBestArc 71 = .ok (.iinc 3 1, 3) := by decide +kernel
theorem dX4_seekBestArc_74 : decode cX4_seekBestArc 74 = .ok (.goto (-43), 3) := by decide +kernel
theorem dX4_seekBestArc_77 : decode cX4_seekBestArc 77 = .ok (.iinc 2 1, 3) := by decide +kernel
theorem dX4_seekBestArc_80 : decode cX4_seekBestArc 80 = .ok (.goto (-57), 3) := by decide +kernel
theorem dX4_seekBestArc_83 : decode cX4_seekBestArc 83 = .ok (.return_, 1) := by decide +kernel
theorem dX5_init_0 : decode cX5_init 0 = .ok (.aload_n 0, 1) := by decide +kernel
theorem dX5_init_1 : decode cX5_init 1 = .ok (.invokespecial 3, 3) := by decide +kernel
theorem dX5_init_4 : decode cX5_init 4 = .ok (.aload_n 0, 1) := by decide +kernel
theorem dX5_init_5 : decode cX5_init 5 = .ok (.bipush 6, 2) := by decide +kernel
theorem dX5_init_7 : decode cX5_init 7 = .ok (.anewarray 9, 3) := by decide +kernel
theorem dX5_init_10 : decode cX5_init 10 = .ok (.putfield 11, 3) := by decide +kernel
theorem dX5_init_13 : decode cX5_init 13 = .ok (.iconst 0, 1) := by decide +kernel
theorem dX5_init_14 : decode cX5_init 14 = .ok (.istore_n 1, 1) := by decide +kernel
theorem dX5_init_15 : decode cX5_init 15 = .ok (.iload_n 1, 1) := by decide +kernel
theorem dX5_init_16 : decode cX5_init 16 = .ok (.bipush 6, 2) := by decide +kernel
theorem dX5_init_18 : decode cX5_init 18 = .ok (.if_icmp .ge 22, 3) := by decide +kernel
theorem dX5_init_21 : decode cX5_init 21 = .ok (.aload_n 0, 1) := by decide +kernel
theorem dX5_init_22 : decode cX5_init 22 = .ok (.getfield 11, 3) := by decide +kernel
theorem dX5_init_25 : decode cX5_init 25 = .ok (.iload_n 1, 1) := by decide +kernel
theorem dX5_init_26 : decode cX5_init 26 = .ok (.new 9, 3) := by decide +kernel
theorem dX5_init_29 : decode cX5_init 29 = .ok (.dup, 1) := by decide +kernel
theorem dX5_init_30 : decode cX5_init 30 = .ok (.invokespecial 17, 3) := by decide +kernel
theorem dX5_init_33 : decode cX5_init 33 = .ok (.aastore, 1) := by decide +kernel
theorem dX5_init_34 : decode cX5_init 34 = .ok (.iinc 1 1, 3) := by decide +kernel
theorem dX5_init_37 : decode cX5_init 37 = .ok (.goto (-22), 3) := by decide +kernel
theorem dX5_init_40 : decode cX5_init 40 = .ok (.aload_n 0, 1) := by decide +kernel
theorem dX5_init_41 : decode cX5_init 41 = .ok (.new 18, 3) := by decide +kernel
theorem dX5_init_44 : decode cX5_init 44 = .ok (.dup, 1) := by decide +kernel
theorem dX5_init_45 : decode cX5_init 45 = .ok (.invokespecial 20, 3) := by decide +kernel
theorem dX5_init_48 : decode cX5_init 48 = .ok (.putfield 21, 3) := by decide +kernel
theorem dX5_init_51 : decode cX5_init 51 = .ok (.aload_n 0, 1) := by decide +kernel
theorem dX5_init_52 : decode cX5_init 52 = .ok (.bipush 20, 2) := by decide +kernel
theorem dX5_init_54 : decode cX5_init 54 = .ok (.putfield 25, 3) := by decide +kernel
theorem dX5_init_57 : decode cX5_init 57 = .ok (.aload_n 0, 1) := by decide +kernel
theorem dX5_init_58 : decode cX5_init 58 = .ok (.iconst 2, 1) := by decide +kernel
theorem dX5_init_59 : decode cX5_init 59 = .ok (.putfield 29, 3) := by decide +kernel
theorem dX5_init_62 : decode cX5_init 62 = .ok (.return_, 1) := by decide +kernel
theorem dX5_copyFrom_0 : decode cX5_copyFrom 0 = .ok (.iconst 0, 1) := by decide +kernel
theorem dX5_copyFrom_1 : decode cX5_copyFrom 1 = .ok (.istore_n 2, 1) := by decide +kernel
theorem dX5_copyFrom_2 : decode cX5_copyFrom 2 = .ok (.iload_n 2, 1) := by decide +kernel
theorem dX5_copyFrom_3 : decode cX5_copyFrom 3 = .ok (.bipush 6, 2) := by decide +kernel
theorem dX5_copyFrom_5 : decode cX5_copyFrom 5 = .ok (.if_icmp .ge 24, 3) := by decide +kernel
theorem dX5_copyFrom_8 : decode cX5_copyFrom 8 = .ok (.aload_n 0, 1) := by decide +kernel
theorem dX5_copyFrom_9 : decode cX5_copyFrom 9 = .ok (.getfield 11, 3) := by decide +kernel
theorem dX5_copyFrom_12 : decode cX5_copyFrom 12 = .ok (.iload_n 2, 1) := by decide +kernel
theorem dX5_copyFrom_13 : decode cX5_copyFrom 13 = .ok (.aaload, 1) := by decide +kernel
theorem dX5_copyFrom_14 : decode cX5_copyFrom 14 = .ok (.aload_n 1, 1) := by decide +kernel
theorem dX5_copyFrom_15 : decode cX5_copyFrom 15 = .ok (.getfield 11, 3) := by decide +kernel
theorem dX5_copyFrom_18 : decode cX5_copyFrom 18 = .ok (.iload_n 2, 1) := by decide +kernel
theorem dX5_copyFrom_19 : decode cX5_copyFrom 19 = .ok (.aaload, 1) := by decide +kernel
theorem dX5_copyFrom_20 : decode cX5_copyFrom 20 = .ok (.invokevirtual 32, 3) := by decide +kernel
theorem dX5_copyFrom_23 : decode cX5_copyFrom 23 = .ok (.iinc 2 1, 3) := by decide +kernel
theorem dX5_copyFrom_26 : decode cX5_copyFrom 26 = .ok (.goto (-24), 3) := by decide +kernel
theorem dX5_copyFrom_29 : decode cX5_copyFrom 29 = .ok (.aload_n 0, 1) := by decide +kernel
theorem dX5_copyFrom_30 : decode cX5_copyFrom 30 = .ok (.getfield 21, 3) := by decide +kernel
theorem dX5_copyFrom_33 : decode cX5_copyFrom 33 = .ok (.aload_n 1, 1) := by decide +kernel
theorem dX5_copyFrom_34 : decode cX5_copyFrom 34 = .ok (.getfield 21, 3) := by decide +kernel
theorem dX5_copyFrom_37 : decode cX5_copyFrom 37 = .ok (.invokevirtual 36, 3) := by decide +kernel
theorem dX5_copyFrom_40 : decode cX5_copyFrom 40 = .ok (.aload_n 0, 1) := by decide +kernel
theorem dX5_copyFrom_41 : decode cX5_copyFrom 41 = .ok (.aload_n 1, 1) := by decide +kernel
theorem dX5_copyFrom_42 : decode cX5_copyFrom 42 = .ok (.getfield 39, 3) := by decide +kernel
theorem dX5_copyFrom_45 : decode cX5_copyFrom 45 = .ok (.putfield 39, 3) := by decide +kernel
theorem dX5_copyFrom_48 : decode cX5_copyFrom 48 = .ok (.aload_n 0, 1) := by decide +kernel
theorem dX5_copyFrom_49 : decode cX5_copyFrom 49 = .ok (.aload_n 1, 1) := by decide +kernel
theorem dX5_copyFrom_50 : decode cX5_copyFrom 50 = .ok (.getfield 42, 3) := by decide +kernel
theorem dX5_copyFrom_53 : decode cX5_copyFrom 53 = .ok (.putfield 42, 3) := by decide +kernel
theorem dX5_copyFrom_56 : decode cX5_copyFrom 56 = .ok (.aload_n 0, 1) := by decide +kernel
theorem dX5_copyFrom_57 : decode cX5_copyFrom 57 = .ok (.aload_n 1, 1) := by decide +kernel
theorem dX5_copyFrom_58 : decode cX5_copyFrom 58 = .ok (.getfield 45, 3) := by decide +kernel
theorem dX5_copyFrom_61 : decode cX5_copyFrom 61 = .ok (.putfield 45, 3) := by decide +kernel
theorem dX5_copyFrom_64 : decode cX5_copyFrom 64 = .ok (.aload_n 0, 1) := by decide +kernel
theorem dX5_copyFrom_65 : decode cX5_copyFrom 65 = .ok (.aload_n 1, 1) := by decide +kernel
theorem dX5_copyFrom_66 : decode cX5_copyFrom 66 = .ok (.getfield 25, 3) := by decide +kernel
theorem dX5_copyFrom_69 : decode cX5_copyFrom 69 = .ok (.putfield 25, 3) := by decide +kernel
theorem dX5_copyFrom_72 : decode cX5_copyFrom 72 = .ok (.aload_n 0, 1) := by decide +kernel
theorem dX5_copyFrom_73 : decode cX5_copyFrom 73 = .ok (.aload_n 1, 1) := by decide +kernel
theorem dX5_copyFrom_74 : decode cX5_copyFrom 74 = .ok (.getfield 29, 3) := by decide +kernel
theorem dX5_copyFrom_77 : decode cX5_copyFrom 77 = .ok (.putfield 29, 3) := by decide +kernel
theorem dX5_copyFrom_80 : decode cX5_copyFrom 80 = .ok (.aload_n 0, 1) := by decide +kernel
theorem dX5_copyFrom_81 : decode cX5_copyFrom 81 = .ok (.aload_n 1, 1) := by decide +kernel
theorem dX5_copyFrom_82 : decode cX5_copyFrom 82 = .ok (.getfield 48, 3) := by decide +kernel
theorem dX5_copyFrom_85 : decode cX5_copyFrom 85 = .ok (.putfield 48, 3) := by decide +kernel
theorem dX5_copyFrom_88 : decode cX5_copyFrom 88 = .ok (.aload_n 0, 1) := by decide +kernel
theorem dX5_copyFrom_89 : decode cX5_copyFrom 89 = .ok (.aload_n 1, 1) := by decide +kernel
theorem dX5_copyFrom_90 : decode cX5_copyFrom 90 = .ok (.getfield 51, 3) := by decide +kernel
theorem dX5_copyFrom_93 : decode cX5_copyFrom 93 = .ok (.putfield 51, 3) := by decide +kernel
theorem dX5_copyFrom_96 : decode cX5_copyFrom 96 = .ok (.return_, 1) := by decide +kernel
theorem dX5_hasRoom_0 : decode cX5_hasRoom 0 = .ok (.aload_n 0, 1) := by decide +kernel
theorem dX5_hasRoom_1 : decode cX5_hasRoom 1 = .ok (.getfield 39, 3) := by decide +kernel
theorem dX5_hasRoom_4 : decode cX5_hasRoom 4 = .ok (.bipush 6, 2) := by decide +kernel
theorem dX5_hasRoom_6 : decode cX5_hasRoom 6 = .ok (.if_icmp .ge 7, 3) := by decide +kernel
theorem dX5_hasRoom_9 : decode cX5_hasRoom 9 = .ok (.iconst 1, 1) := by decide +kernel
theorem dX5_hasRoom_10 : decode cX5_hasRoom 10 = .ok (.goto 4, 3) := by decide +kernel
theorem dX5_hasRoom_13 : decode cX5_hasRoom 13 = .ok (.iconst 0, 1) := by decide +kernel
theorem dX5_hasRoom_14 : decode cX5_hasRoom 14 = .ok (.ireturn, 1) := by decide +kernel
theorem dX5_add_0 : decode cX5_add 0 = .ok (.aload_n 0, 1) := by decide +kernel
theorem dX5_add_1 : decode cX5_add 1 = .ok (.invokevirtual 54, 3) := by decide +kernel
theorem dX5_add_4 : decode cX5_add 4 = .ok (.ifCond .ne 5, 3) := by decide +kernel
theorem dX5_add_7 : decode cX5_add 7 = .ok (.iconst (-1), 1) := by decide +kernel
theorem dX5_add_8 : decode cX5_add 8 = .ok (.ireturn, 1) := by decide +kernel
theorem dX5_add_9 : decode cX5_add 9 = .ok (.aload_n 0, 1) := by decide +kernel
theorem dX5_add_10 : decode cX5_add 10 = .ok (.getfield 11, 3) := by decide +kernel
theorem dX5_add_13 : decode cX5_add 13 = .ok (.aload_n 0, 1) := by decide +kernel
theorem dX5_add_14 : decode cX5_add 14 = .ok (.getfield 39, 3) := by decide +kernel
theorem dX5_add_17 : decode cX5_add 17 = .ok (.aaload, 1) := by decide +kernel
theorem dX5_add_18 : decode cX5_add 18 = .ok (.astore 4, 2) := by decide +kernel
theorem dX5_add_20 : decode cX5_add 20 = .ok (.aload 4, 2) := by decide +kernel
theorem dX5_add_22 : decode cX5_add 22 = .ok (.aload_n 0, 1) := by decide +kernel
theorem dX5_add_23 : decode cX5_add 23 = .ok (.getfield 42, 3) := by decide +kernel
theorem dX5_add_26 : decode cX5_add 26 = .ok (.putfield 58, 3) := by decide +kernel
theorem dX5_add_29 : decode cX5_add 29 = .ok (.aload 4, 2) := by decide +kernel
theorem dX5_add_31 : decode cX5_add 31 = .ok (.iload_n 1, 1) := by decide +kernel
theorem dX5_add_32 : decode cX5_add 32 = .ok (.putfield 61, 3) := by decide +kernel
theorem dX5_add_35 : decode cX5_add 35 = .ok (.aload 4, 2) := by decide +kernel
theorem dX5_add_37 : decode cX5_add 37 = .ok (.iload_n 3, 1) := by decide +kernel
theorem dX5_add_38 : decode cX5_add 38 = .ok (.putfield 64, 3) := by decide +kernel
theorem dX5_add_41 : decode cX5_add 41 = .ok (.aload 4, 2) := by decide +kernel
theorem dX5_add_43 : decode cX5_add 43 = .ok (.aload_n 0, 1) := by decide +kernel
theorem dX5_add_44 : decode cX5_add 44 = .ok (.getfield 45, 3) := by decide +kernel
theorem dX5_add_47 : decode cX5_add 47 = .ok (.iload_n 2, 1) := by decide +kernel
theorem dX5_add_48 : decode cX5_add 48 = .ok (.iadd, 1) := by decide +kernel
theorem dX5_add_49 : decode cX5_add 49 = .ok (.putfield 67, 3) := by decide +kernel
theorem dX5_add_52 : decode cX5_add 52 = .ok (.aload 4, 2) := by decide +kernel
theorem dX5_add_54 : decode cX5_add 54 = .ok (.iconst 0, 1) := by decide +kernel
theorem dX5_add_55 : decode cX5_add 55 = .ok (.putfield 70, 3) := by decide +kernel
theorem dX5_add_58 : decode cX5_add 58 = .ok (.aload_n 0, 1) := by decide +kernel
theorem dX5_add_59 : decode cX5_add 59 = .ok (.dup, 1) := by decide +kernel
theorem dX5_add_60 : decode cX5_add 60 = .ok (.getfield 39, 3) := by decide +kernel
theorem dX5_add_63 : decode cX5_add 63 = .ok (.iconst 1, 1) := by decide +kernel
theorem dX5_add_64 : decode cX5_add 64 = .ok (.iadd, 1) := by decide +kernel
theorem dX5_add_65 : decode cX5_add 65 = .ok (.putfield 39, 3) := by decide +kernel
theorem dX5_add_68 : decode cX5_add 68 = .ok (.aload_n 0, 1) := by decide +kernel
theorem dX5_add_69 : decode cX5_add 69 = .ok (.dup, 1) := by decide +kernel
theorem dX5_add_70 : decode cX5_add 70 = .ok (.getfield 42, 3) := by decide +kernel
theorem dX5_add_73 : decode cX5_add 73 = .ok (.iconst 1, 1) := by decide +kernel
theorem dX5_add_74 : decode cX5_add 74 = .ok (.iadd, 1) := by decide +kernel
theorem dX5_add_75 : decode cX5_add 75 = .ok (.putfield 42, 3) := by decide +kernel
theorem dX5_add_78 : decode cX5_add 78 = .ok (.aload 4, 2) := by decide +kernel
theorem dX5_add_80 : decode cX5_add 80 = .ok (.getfield 58, 3) := by decide +kernel
theorem dX5_add_83 : decode cX5_add 83 = .ok (.ireturn, 1) := by decide +kernel
theorem dX5_slotOf_0 : decode cX5_slotOf 0 = .ok (.iconst 0, 1) := by decide +kernel
theorem dX5_slotOf_1 : decode cX5_slotOf 1 = .ok (.istore_n 2, 1) := by decide +kernel
theorem dX5_slotOf_2 : decode cX5_slotOf 2 = .ok (.iload_n 2, 1) := by decide +kernel
theorem dX5_slotOf_3 : decode cX5_slotOf 3 = .ok (.aload_n 0, 1) := by decide +kernel
theorem dX5_slotOf_4 : decode cX5_slotOf 4 = .ok (.getfield 39, 3) := by decide +kernel
theorem dX5_slotOf_7 : decode cX5_slotOf 7 = .ok (.if_icmp .ge 24, 3) := by decide +kernel
theorem dX5_slotOf_10 : decode cX5_slotOf 10 = .ok (.aload_n 0, 1) := by decide +kernel
theorem dX5_slotOf_11 : decode cX5_slotOf 11 = .ok (.getfield 11, 3) := by decide +kernel
theorem dX5_slotOf_14 : decode cX5_slotOf 14 = .ok (.iload_n 2, 1) := by decide +kernel
theorem dX5_slotOf_15 : decode cX5_slotOf 15 = .ok (.aaload, 1) := by decide +kernel
theorem dX5_slotOf_16 : decode cX5_slotOf 16 = .ok (.getfield 58, 3) := by decide +kernel
theorem dX5_slotOf_19 : decode cX5_slotOf 19 = .ok (.iload_n 1, 1) := by decide +kernel
theorem dX5_slotOf_20 : decode cX5_slotOf 20 = .ok (.if_icmp .ne 5, 3) := by decide +kernel
theorem dX5_slotOf_23 : decode cX5_slotOf 23 = .ok (.iload_n 2, 1) := by decide +kernel
theorem dX5_slotOf_24 : decode cX5_slotOf 24 = .ok (.ireturn, 1) := by decide +kernel
theorem dX5_slotOf_25 : decode cX5_slotOf 25 = .ok (.iinc 2 1, 3) := by decide +kernel
theorem dX5_slotOf_28 : decode cX5_slotOf 28 = .ok (.goto (-26), 3) := by decide +kernel
theorem dX5_slotOf_31 : decode cX5_slotOf 31 = .ok (.iconst (-1), 1) := by decide +kernel
theorem dX5_slotOf_32 : decode cX5_slotOf 32 = .ok (.ireturn, 1) := by decide +kernel
theorem dX5_find_0 : decode cX5_find 0 = .ok (.aload_n 0, 1) := by decide +kernel
theorem dX5_find_1 : decode cX5_find 1 = .ok (.iload_n 1, 1) := by decide +kernel
theorem dX5_find_2 : decode cX5_find 2 = .ok (.invokevirtual 73, 3) := by decide +kernel
theorem dX5_find_5 : decode cX5_find 5 = .ok (.istore_n 2, 1) := by decide +kernel
theorem dX5_find_6 : decode cX5_find 6 = .ok (.iload_n 2, 1) := by decide +kernel
theorem dX5_find_7 : decode cX5_find 7 = .ok (.iconst (-1), 1) := by decide +kernel
theorem dX5_find_8 : decode cX5_find 8 = .ok (.if_icmp .ne 7, 3) := by decide +kernel
theorem dX5_find_11 : decode cX5_find 11 = .ok (.aconst_null, 1) := by decide +kernel
theorem dX5_find_12 : decode cX5_find 12 = .ok (.goto 9, 3) := by decide +kernel
theorem dX5_find_15 : decode cX5_find 15 = .ok (.aload_n 0, 1) := by decide +kernel
theorem dX5_find_16 : decode cX5_find 16 = .ok (.getfield 11, 3) := by decide +kernel
theorem dX5_find_19 : decode cX5_find 19 = .ok (.iload_n 2, 1) := by decide +kernel
theorem dX5_find_20 : decode cX5_find 20 = .ok (.aaload, 1) := by decide +kernel
theorem dX5_find_21 : decode cX5_find 21 = .ok (.areturn, 1) := by decide +kernel
theorem dX5_sell_0 : decode cX5_sell 0 = .ok (.aload_n 0, 1) := by decide +kernel
theorem dX5_sell_1 : decode cX5_sell 1 = .ok (.iload_n 1, 1) := by decide +kernel
theorem dX5_sell_2 : decode cX5_sell 2 = .ok (.invokevirtual 73, 3) := by decide +kernel
theorem dX5_sell_5 : decode cX5_sell 5 = .ok (.istore_n 2, 1) := by decide +kernel
theorem dX5_sell_6 : decode cX5_sell 6 = .ok (.iload_n 2, 1) := by decide +kernel
theorem dX5_sell_7 : decode cX5_sell 7 = .ok (.iconst (-1), 1) := by decide +kernel
theorem dX5_sell_8 : decode cX5_sell 8 = .ok (.if_icmp .ne 5, 3) := by decide +kernel
theorem dX5_sell_11 : decode cX5_sell 11 = .ok (.iconst 0, 1) := by decide +kernel
theorem dX5_sell_12 : decode cX5_sell 12 = .ok (.ireturn, 1) := by decide +kernel
theorem dX5_sell_13 : decode cX5_sell 13 = .ok (.aload_n 0, 1) := by decide +kernel
theorem dX5_sell_14 : decode cX5_sell 14 = .ok (.dup, 1) := by decide +kernel
theorem dX5_sell_15 : decode cX5_sell 15 = .ok (.getfield 25, 3) := by decide +kernel
theorem dX5_sell_18 : decode cX5_sell 18 = .ok (.aload_n 0, 1) := by decide +kernel
theorem dX5_sell_19 : decode cX5_sell 19 = .ok (.getfield 11, 3) := by decide +kernel
theorem dX5_sell_22 : decode cX5_sell 22 = .ok (.iload_n 2, 1) := by decide +kernel
theorem dX5_sell_23 : decode cX5_sell 23 = .ok (.aaload, 1) := by decide +kernel
theorem dX5_sell_24 : decode cX5_sell 24 = .ok (.getfield 64, 3) := by decide +kernel
theorem dX5_sell_27 : decode cX5_sell 27 = .ok (.iadd, 1) := by decide +kernel
theorem dX5_sell_28 : decode cX5_sell 28 = .ok (.putfield 25, 3) := by decide +kernel
theorem dX5_sell_31 : decode cX5_sell 31 = .ok (.aload_n 0, 1) := by decide +kernel
theorem dX5_sell_32 : decode cX5_sell 32 = .ok (.iload_n 2, 1) := by decide +kernel
theorem dX5_sell_33 : decode cX5_sell 33 = .ok (.invokevirtual 77, 3) := by decide +kernel
theorem dX5_sell_36 : decode cX5_sell 36 = .ok (.iconst 1, 1) := by decide +kernel
theorem dX5_sell_37 : decode cX5_sell 37 = .ok (.ireturn, 1) := by decide +kernel
theorem dX5_takeOut_0 : decode cX5_takeOut 0 = .ok (.aload_n 0, 1) := by decide +kernel
theorem dX5_takeOut_1 : decode cX5_takeOut 1 = .ok (.getfield 11, 3) := by decide +kernel
theorem dX5_takeOut_4 : decode cX5_takeOut 4 = .ok (.iload_n 1, 1) := by decide +kernel
theorem dX5_takeOut_5 : decode cX5_takeOut 5 = .ok (.aaload, 1) := by decide +kernel
theorem dX5_takeOut_6 : decode cX5_takeOut 6 = .ok (.astore_n 2, 1) := by decide +kernel
theorem dX5_takeOut_7 : decode cX5_takeOut 7 = .ok (.iload_n 1, 1) := by decide +kernel
theorem dX5_takeOut_8 : decode cX5_takeOut 8 = .ok (.istore_n 3, 1) := by decide +kernel
theorem dX5_takeOut_9 : decode cX5_takeOut 9 = .ok (.iload_n 3, 1) := by decide +kernel
theorem dX5_takeOut_10 : decode cX5_takeOut 10 = .ok (.aload_n 0, 1) := by decide +kernel
theorem dX5_takeOut_11 : decode cX5_takeOut 11 = .ok (.getfield 39, 3) := by decide +kernel
theorem dX5_takeOut_14 : decode cX5_takeOut 14 = .ok (.iconst 1, 1) := by decide +kernel
theorem dX5_takeOut_15 : decode cX5_takeOut 15 = .ok (.isub, 1) := by decide +kernel
theorem dX5_takeOut_16 : decode cX5_takeOut 16 = .ok (.if_icmp .ge 23, 3) := by decide +kernel
theorem dX5_takeOut_19 : decode cX5_takeOut 19 = .ok (.aload_n 0, 1) := by decide +kernel
theorem dX5_takeOut_20 : decode cX5_takeOut 20 = .ok (.getfield 11, 3) := by decide +kernel
theorem dX5_takeOut_23 : decode cX5_takeOut 23 = .ok (.iload_n 3, 1) := by decide +kernel
theorem dX5_takeOut_24 : decode cX5_takeOut 24 = .ok (.aload_n 0, 1) := by decide +kernel
theorem dX5_takeOut_25 : decode cX5_takeOut 25 = .ok (.getfield 11, 3) := by decide +kernel
theorem dX5_takeOut_28 : decode cX5_takeOut 28 = .ok (.iload_n 3, 1) := by decide +kernel
theorem dX5_takeOut_29 : decode cX5_takeOut 29 = .ok (.iconst 1, 1) := by decide +kernel
theorem dX5_takeOut_30 : decode cX5_takeOut 30 = .ok (.iadd, 1) := by decide +kernel
theorem dX5_takeOut_31 : decode cX5_takeOut 31 = .ok (.aaload, 1) := by decide +kernel
theorem dX5_takeOut_32 : decode cX5_takeOut 32 = .ok (.aastore, 1) := by decide +kernel
theorem dX5_takeOut_33 : decode cX5_takeOut 33 = .ok (.iinc 3 1, 3) := by decide +kernel
theorem dX5_takeOut_36 : decode cX5_takeOut 36 = .ok (.goto (-27), 3) := by decide +kernel
theorem dX5_takeOut_39 : decode cX5_takeOut 39 = .ok (.aload_n 0, 1) := by decide +kernel
theorem dX5_takeOut_40 : decode cX5_takeOut 40 = .ok (.getfield 11, 3) := by decide +kernel
theorem dX5_takeOut_43 : decode cX5_takeOut 43 = .ok (.aload_n 0, 1) := by decide +kernel
theorem dX5_takeOut_44 : decode cX5_takeOut 44 = .ok (.getfield 39, 3) := by decide +kernel
theorem dX5_takeOut_47 : decode cX5_takeOut 47 = .ok (.iconst 1, 1) := by decide +kernel
theorem dX5_takeOut_48 : decode cX5_takeOut 48 = .ok (.isub, 1) := by decide +kernel
theorem dX5_takeOut_49 : decode cX5_takeOut 49 = .ok (.aload_n 2, 1) := by decide +kernel
theorem dX5_takeOut_50 : decode cX5_takeOut 50 = .ok (.aastore, 1) := by decide +kernel
theorem dX5_takeOut_51 : decode cX5_takeOut 51 = .ok (.aload_n 0, 1) := by decide +kernel
theorem dX5_takeOut_52 : decode cX5_takeOut 52 = .ok (.dup, 1) := by decide +kernel
theorem dX5_takeOut_53 : decode cX5_takeOut 53 = .ok (.getfield 39, 3) := by decide +kernel
theorem dX5_takeOut_56 : decode cX5_takeOut 56 = .ok (.iconst 1, 1) := by decide +kernel
theorem dX5_takeOut_57 : decode cX5_takeOut 57 = .ok (.isub, 1) := by decide +kernel
theorem dX5_takeOut_58 : decode cX5_takeOut 58 = .ok (.putfield 39, 3) := by decide +kernel
theorem dX5_takeOut_61 : decode cX5_takeOut 61 = .ok (.return_, 1) := by decide +kernel
theorem dX5_canBuy_0 : decode cX5_canBuy 0 = .ok (.iconst 3, 1) := by decide +kernel
theorem dX5_canBuy_1 : decode cX5_canBuy 1 = .ok (.iload_n 1, 1) := by decide +kernel
theorem dX5_canBuy_2 : decode cX5_canBuy 2 = .ok (.imul, 1) := by decide +kernel
theorem dX5_canBuy_3 : decode cX5_canBuy 3 = .ok (.aload_n 0, 1) := by decide +kernel
theorem dX5_canBuy_4 : decode cX5_canBuy 4 = .ok (.getfield 25, 3) := by decide +kernel
theorem dX5_canBuy_7 : decode cX5_canBuy 7 = .ok (.if_icmp .gt 7, 3) := by decide +kernel
theorem dX5_canBuy_10 : decode cX5_canBuy 10 = .ok (.iconst 1, 1) := by decide +kernel
theorem dX5_canBuy_11 : decode cX5_canBuy 11 = .ok (.goto 4, 3) := by decide +kernel
theorem dX5_canBuy_14 : decode cX5_canBuy 14 = .ok (.iconst 0, 1) := by decide +kernel
theorem dX5_canBuy_15 : decode cX5_canBuy 15 = .ok (.ireturn, 1) := by decide +kernel
theorem dX5_buy_0 : decode cX5_buy 0 = .ok (.aload_n 0, 1) := by decide +kernel
theorem dX5_buy_1 : decode cX5_buy 1 = .ok (.dup, 1) := by decide +kernel
theorem dX5_buy_2 : decode cX5_buy 2 = .ok (.getfield 25, 3) := by decide +kernel
theorem dX5_buy_5 : decode cX5_buy 5 = .ok (.iconst 3, 1) := by decide +kernel
theorem dX5_buy_6 : decode cX5_buy 6 = .ok (.iload_n 2, 1) := by decide +kernel
theorem dX5_buy_7 : decode cX5_buy 7 = .ok (.imul, 1) := by decide +kernel
theorem dX5_buy_8 : decode cX5_buy 8 = .ok (.isub, 1) := by decide +kernel
theorem dX5_buy_9 : decode cX5_buy 9 = .ok (.putfield 25, 3) := by decide +kernel
theorem dX5_buy_12 : decode cX5_buy 12 = .ok (.aload_n 1, 1) := by decide +kernel
theorem dX5_buy_13 : decode cX5_buy 13 = .ok (.dup, 1) := by decide +kernel
theorem dX5_buy_14 : decode cX5_buy 14 = .ok (.getfield 64, 3) := by decide +kernel
theorem dX5_buy_17 : decode cX5_buy 17 = .ok (.iload_n 2, 1) := by decide +kernel
theorem dX5_buy_18 : decode cX5_buy 18 = .ok (.iadd, 1) := by decide +kernel
theorem dX5_buy_19 : decode cX5_buy 19 = .ok (.putfield 64, 3) := by decide +kernel
theorem dX5_buy_22 : decode cX5_buy 22 = .ok (.return_, 1) := by decide +kernel
theorem dX5_canSweep_0 : decode cX5_canSweep 0 = .ok (.aload_n 0, 1) := by decide +kernel
theorem dX5_canSweep_1 : decode cX5_canSweep 1 = .ok (.getfield 25, 3) := by decide +kernel
theorem dX5_canSweep_4 : decode cX5_canSweep 4 = .ok (.aload_n 0, 1) := by decide +kernel
theorem dX5_canSweep_5 : decode cX5_canSweep 5 = .ok (.getfield 21, 3) := by decide +kernel
theorem dX5_canSweep_8 : decode cX5_canSweep 8 = .ok (.iload_n 1, 1) := by decide +kernel
theorem dX5_canSweep_9 : decode cX5_canSweep 9 = .ok (.iload_n 2, 1) := by decide +kernel
theorem dX5_canSweep_10 : decode cX5_canSweep 10 = .ok (.aload_n 0, 1) := by decide +kernel
theorem dX5_canSweep_11 : decode cX5_canSweep 11 = .ok (.getfield 29, 3) := by decide +kernel
theorem dX5_canSweep_14 : decode cX5_canSweep 14 = .ok (.invokevirtual 81, 3) := by decide +kernel
theorem dX5_canSweep_17 : decode cX5_canSweep 17 = .ok (.iadd, 1) := by decide +kernel
theorem dX5_canSweep_18 : decode cX5_canSweep 18 = .ok (.ifCond .lt 7, 3) := by decide +kernel
theorem dX5_canSweep_21 : decode cX5_canSweep 21 = .ok (.iconst 1, 1) := by decide +kernel
theorem dX5_canSweep_22 : decode cX5_canSweep 22 = .ok (.goto 4, 3) := by decide +kernel
theorem dX5_canSweep_25 : decode cX5_canSweep 25 = .ok (.iconst 0, 1) := by decide +kernel
theorem dX5_canSweep_26 : decode cX5_canSweep 26 = .ok (.ireturn, 1) := by decide +kernel
theorem dX5_sweep_0 : decode cX5_sweep 0 = .ok (.aload_n 0, 1) := by decide +kernel
theorem dX5_sweep_1 : decode cX5_sweep 1 = .ok (.dup, 1) := by decide +kernel
theorem dX5_sweep_2 : decode cX5_sweep 2 = .ok (.getfield 25, 3) := by decide +kernel
theorem dX5_sweep_5 : decode cX5_sweep 5 = .ok (.aload_n 0, 1) := by decide +kernel
theorem dX5_sweep_6 : decode cX5_sweep 6 = .ok (.getfield 21, 3) := by decide +kernel
theorem dX5_sweep_9 : decode cX5_sweep 9 = .ok (.iload_n 1, 1) := by decide +kernel
theorem dX5_sweep_10 : decode cX5_sweep 10 = .ok (.iload_n 2, 1) := by decide +kernel
theorem dX5_sweep_11 : decode cX5_sweep 11 = .ok (.aload_n 0, 1) := by decide +kernel
theorem dX5_sweep_12 : decode cX5_sweep 12 = .ok (.getfield 29, 3) := by decide +kernel
theorem dX5_sweep_15 : decode cX5_sweep 15 = .ok (.invokevirtual 81, 3) := by decide +kernel
theorem dX5_sweep_18 : decode cX5_sweep 18 = .ok (.iadd, 1) := by decide +kernel
theorem dX5_sweep_19 : decode cX5_sweep 19 = .ok (.putfield 25, 3) := by decide +kernel
theorem dX5_sweep_22 : decode cX5_sweep 22 = .ok (.aload_n 0, 1) := by decide +kernel
theorem dX5_sweep_23 : decode cX5_sweep 23 = .ok (.getfield 21, 3) := by decide +kernel
theorem dX5_sweep_26 : decode cX5_sweep 26 = .ok (.iload_n 1, 1) := by decide +kernel
theorem dX5_sweep_27 : decode cX5_sweep 27 = .ok (.iload_n 2, 1) := by decide +kernel
theorem dX5_sweep_28 : decode cX5_sweep 28 = .ok (.invokevirtual 85, 3) := by decide +kernel
theorem dX5_sweep_31 : decode cX5_sweep 31 = .ok (.ireturn, 1) := by decide +kernel
theorem dX5_letPass_0 : decode cX5_letPass 0 = .ok (.aload_n 0, 1) := by decide +kernel
theorem dX5_letPass_1 : decode cX5_letPass 1 = .ok (.getfield 48, 3) := by decide +kernel
theorem dX5_letPass_4 : decode cX5_letPass 4 = .ok (.istore_n 2, 1) := by decide +kernel
theorem dX5_letPass_5 : decode cX5_letPass 5 = .ok (.iconst 0, 1) := by decide +kernel
theorem dX5_letPass_6 : decode cX5_letPass 6 = .ok (.istore_n 3, 1) := by decide +kernel
theorem dX5_letPass_7 : decode cX5_letPass 7 = .ok (.iload_n 3, 1) := by decide +kernel
theorem dX5_letPass_8 : decode cX5_letPass 8 = .ok (.iload_n 1, 1) := by decide +kernel
theorem dX5_letPass_9 : decode cX5_letPass 9 = .ok (.if_icmp .ge 13, 3) := by decide +kernel
theorem dX5_letPass_12 : decode cX5_letPass 12 = .ok (.aload_n 0, 1) := by decide +kernel
theorem dX5_letPass_13 : decode cX5_letPass 13 = .ok (.invokevirtual 89, 3) := by decide +kernel
theorem dX5_letPass_16 : decode cX5_letPass 16 = .ok (.iinc 3 1, 3) := by decide +kernel
theorem dX5_letPass_19 : decode cX5_letPass 19 = .ok (.goto (-12), 3) := by decide +kernel
theorem dX5_letPass_22 : decode cX5_letPass 22 = .ok (.aload_n 0, 1) := by decide +kernel
theorem dX5_letPass_23 : decode cX5_letPass 23 = .ok (.getfield 48, 3) := by decide +kernel
theorem dX5_letPass_26 : decode cX5_letPass 26 = .ok (.iload_n 2, 1) := by decide +kernel
theorem dX5_letPass_27 : decode cX5_letPass 27 = .ok (.isub, 1) := by decide +kernel
theorem dX5_letPass_28 : decode cX5_letPass 28 = .ok (.ireturn, 1) := by decide +kernel
theorem dX5_letOneDayPass_0 : decode cX5_letOneDayPass 0 = .ok (.aload_n 0, 1) := by decide +kernel
theorem dX5_letOneDayPass_1 : decode cX5_letOneDayPass 1 = .ok (.dup, 1) := by decide +kernel
theorem dX5_letOneDayPass_2 : decode cX5_letOneDayPass 2 = .ok (.getfield 45, 3) := by decide +kernel
theorem dX5_letOneDayPass_5 : decode cX5_letOneDayPass 5 = .ok (.iconst 1, 1) := by decide +kernel
theorem dX5_letOneDayPass_6 : decode cX5_letOneDayPass 6 = .ok (.iadd, 1) := by decide +kernel
theorem dX5_letOneDayPass_7 : decode cX5_letOneDayPass 7 = .ok (.putfield 45, 3) := by decide +kernel
theorem dX5_letOneDayPass_10 : decode cX5_letOneDayPass 10 = .ok (.iconst 0, 1) := by decide +kernel
theorem dX5_letOneDayPass_11 : decode cX5_letOneDayPass 11 = .ok (.istore_n 1, 1) := by decide +kernel
theorem dX5_letOneDayPass_12 : decode cX5_letOneDayPass 12 = .ok (.iload_n 1, 1) := by decide +kernel
theorem dX5_letOneDayPass_13 : decode cX5_letOneDayPass 13 = .ok (.aload_n 0, 1) := by decide +kernel
theorem dX5_letOneDayPass_14 : decode cX5_letOneDayPass 14 = .ok (.getfield 39, 3) := by decide +kernel
theorem dX5_letOneDayPass_17 : decode cX5_letOneDayPass 17 = .ok (.if_icmp .ge 35, 3) := by decide +kernel
theorem dX5_letOneDayPass_20 : decode cX5_letOneDayPass 20 = .ok (.aload_n 0, 1) := by decide +kernel
theorem dX5_letOneDayPass_21 : decode cX5_letOneDayPass 21 = .ok (.getfield 11, 3) := by decide +kernel
theorem dX5_letOneDayPass_24 : decode cX5_letOneDayPass 24 = .ok (.iload_n 1, 1) := by decide +kernel
theorem dX5_letOneDayPass_25 : decode cX5_letOneDayPass 25 = .ok (.aaload, 1) := by decide +kernel
theorem dX5_letOneDayPass_26 : decode cX5_letOneDayPass 26 = .ok (.getfield 67, 3) := by decide +kernel
theorem dX5_letOneDayPass_29 : decode cX5_letOneDayPass 29 = .ok (.aload_n 0, 1) := by decide +kernel
theorem dX5_letOneDayPass_30 : decode cX5_letOneDayPass 30 = .ok (.getfield 45, 3) := by decide +kernel
theorem dX5_letOneDayPass_33 : decode cX5_letOneDayPass 33 = .ok (.if_icmp .ne 13, 3) := by decide +kernel
theorem dX5_letOneDayPass_36 : decode cX5_letOneDayPass 36 = .ok (.aload_n 0, 1) := by decide +kernel
theorem dX5_letOneDayPass_37 : decode cX5_letOneDayPass 37 = .ok (.aload_n 0, 1) := by decide +kernel
theorem dX5_letOneDayPass_38 : decode cX5_letOneDayPass 38 = .ok (.getfield 11, 3) := by decide +kernel
theorem dX5_letOneDayPass_41 : decode cX5_letOneDayPass 41 = .ok (.iload_n 1, 1) := by decide +kernel
theorem dX5_letOneDayPass_42 : decode cX5_letOneDayPass 42 = .ok (.aaload, 1) := by decide +kernel
theorem dX5_letOneDayPass_43 : decode cX5_letOneDayPass 43 = .ok (.invokevirtual 92, 3) := by decide +kernel
theorem dX5_letOneDayPass_46 : decode cX5_letOneDayPass 46 = .ok (.iinc 1 1, 3) := by decide +kernel
theorem dX5_letOneDayPass_49 : decode cX5_letOneDayPass 49 = .ok (.goto (-37), 3) := by decide +kernel
theorem dX5_letOneDayPass_52 : decode cX5_letOneDayPass 52 = .ok (.aload_n 0, 1) := by decide +kernel
theorem dX5_letOneDayPass_53 : decode cX5_letOneDayPass 53 = .ok (.invokevirtual 95, 3) := by decide +kernel
theorem dX5_letOneDayPass_56 : decode cX5_letOneDayPass 56 = .ok (.return_, 1) := by decide +kernel
theorem dX5_letCometPass_0 : decode cX5_letCometPass 0 = .ok (.aload_n 0, 1) := by decide +kernel
theorem dX5_letCometPass_1 : decode cX5_letCometPass 1 = .ok (.getfield 21, 3) := by decide +kernel
theorem dX5_letCometPass_4 : decode cX5_letCometPass 4 = .ok (.aload_n 0, 1) := by decide +kernel
theorem dX5_letCometPass_5 : decode cX5_letCometPass 5 = .ok (.getfield 45, 3) := by decide +kernel
theorem dX5_letCometPass_8 : decode cX5_letCometPass 8 = .ok (.aload_n 1, 1) := by decide +kernel
theorem dX5_letCometPass_9 : decode cX5_letCometPass 9 = .ok (.getfield 64, 3) := by decide +kernel
theorem dX5_letCometPass_12 : decode cX5_letCometPass 12 = .ok (.invokevirtual 98, 3) := by decide +kernel
theorem dX5_letCometPass_15 : decode cX5_letCometPass 15 = .ok (.aload_n 1, 1) := by decide +kernel
theorem dX5_letCometPass_16 : decode cX5_letCometPass 16 = .ok (.dup, 1) := by decide +kernel
theorem dX5_letCometPass_17 : decode cX5_letCometPass 17 = .ok (.getfield 64, 3) := by decide +kernel
theorem dX5_letCometPass_20 : decode cX5_letCometPass 20 = .ok (.iconst 1, 1) := by decide +kernel
theorem dX5_letCometPass_21 : decode cX5_letCometPass 21 = .ok (.isub, 1) := by decide +kernel
theorem dX5_letCometPass_22 : decode cX5_letCometPass 22 = .ok (.putfield 64, 3) := by decide +kernel
theorem dX5_letCometPass_25 : decode cX5_letCometPass 25 = .ok (.aload_n 1, 1) := by decide +kernel
theorem dX5_letCometPass_26 : decode cX5_letCometPass 26 = .ok (.dup, 1) := by decide +kernel
theorem dX5_letCometPass_27 : decode cX5_letCometPass 27 = .ok (.getfield 67, 3) := by decide +kernel
theorem dX5_letCometPass_30 : decode cX5_letCometPass 30 = .ok (.aload_n 1, 1) := by decide +kernel
theorem dX5_letCometPass_31 : decode cX5_letCometPass 31 = .ok (.getfield 61, 3) := by decide +kernel
theorem dX5_letCometPass_34 : decode cX5_letCometPass 34 = .ok (.iadd, 1) := by decide +kernel
theorem dX5_letCometPass_35 : decode cX5_letCometPass 35 = .ok (.putfield 67, 3) := by decide +kernel
theorem dX5_letCometPass_38 : decode cX5_letCometPass 38 = .ok (.aload_n 1, 1) := by decide +kernel
theorem dX5_letCometPass_39 : decode cX5_letCometPass 39 = .ok (.dup, 1) := by decide +kernel
theorem dX5_letCometPass_40 : decode cX5_letCometPass 40 = .ok (.getfield 70, 3) := by decide +kernel
theorem dX5_letCometPass_43 : decode cX5_letCometPass 43 = .ok (.iconst 1, 1) := by decide +kernel
theorem dX5_letCometPass_44 : decode cX5_letCometPass 44 = .ok (.iadd, 1) := by decide +kernel
theorem dX5_letCometPass_45 : decode cX5_letCometPass 45 = .ok (.putfield 70, 3) := by decide +kernel
theorem dX5_letCometPass_48 : decode cX5_letCometPass 48 = .ok (.aload_n 0, 1) := by decide +kernel
theorem dX5_letCometPass_49 : decode cX5_letCometPass 49 = .ok (.dup, 1) := by decide +kernel
theorem dX5_letCometPass_50 : decode cX5_letCometPass 50 = .ok (.getfield 48, 3) := by decide +kernel
theorem dX5_letCometPass_53 : decode cX5_letCometPass 53 = .ok (.iconst 1, 1) := by decide +kernel
theorem dX5_letCometPass_54 : decode cX5_letCometPass 54 = .ok (.iadd, 1) := by decide +kernel
theorem dX5_letCometPass_55 : decode cX5_letCometPass 55 = .ok (.putfield 48, 3) := by decide +kernel
theorem dX5_letCometPass_58 : decode cX5_letCometPass 58 = .ok (.return_, 1) := by decide +kernel
theorem dX5_takeOutBurntComets_0 : decode cX5_takeOutBurntComets 0 = .ok (.aload_n 0, 1) := by decide +kernel
theorem dX5_takeOutBurntComets_1 : decode cX5_takeOutBurntComets 1 = .ok (.getfield 39, 3) := by decide +kernel
theorem dX5_takeOutBurntComets_4 : decode cX5_takeOutBurntComets 4 = .ok (.iconst 1, 1) := by decide +kernel
theorem dX5_takeOutBurntComets_5 : decode cX5_takeOutBurntComets 5 = .ok (.isub, 1) := by decide +kernel
theorem dX5_takeOutBurntComets_6 : decode cX5_takeOutBurntComets 6 = .ok (.istore_n 1, 1) := by decide +kernel
theorem dX5_takeOutBurntComets_7 : decode cX5_takeOutBurntComets 7 = .ok (.iload_n 1, 1) := by decide +kernel
theorem dX5_takeOutBurntComets_8 : decode cX5_takeOutBurntComets 8 = .ok (.ifCond .lt 36, 3) := by decide +kernel
theorem dX5_takeOutBurntComets_11 : decode cX5_takeOutBurntComets 11 = .ok (.aload_n 0, 1) := by decide +kernel
theorem dX5_takeOutBurntComets_12 : decode cX5_takeOutBurntComets 12 = .ok (.getfield 11, 3) := by decide +kernel
theorem dX5_takeOutBurntComets_15 : decode cX5_takeOutBurntComets 15 = .ok (.iload_n 1, 1) := by decide +kernel
theorem dX5_takeOutBurntComets_16 : decode cX5_takeOutBurntComets 16 = .ok (.aaload, 1) := by decide +kernel
theorem dX5_takeOutBurntComets_17 : decode cX5_takeOutBurntComets 17 = .ok (.getfield 64, 3) := by decide +kernel
theorem dX5_takeOutBurntComets_20 : decode cX5_takeOutBurntComets 20 = .ok (.ifCond .ne 18, 3) := by decide +kernel
theorem dX5_takeOutBurntComets_23 : decode cX5_takeOutBurntComets 23 = .ok (.aload_n 0, 1) := by decide +kernel
theorem dX5_takeOutBurntComets_24 : decode cX5_takeOutBurntComets 24 = .ok (.iload_n 1, 1) := by decide +kernel
theorem dX5_takeOutBurntComets_25 : decode cX5_takeOutBurntComets 25 = .ok (.invokevirtual 77, 3) := by decide +kernel
theorem dX5_takeOutBurntComets_28 : decode cX5_takeOutBurntComets 28 = .ok (.aload_n 0, 1) := by decide +kernel
theorem dX5_takeOutBurntComets_29 : decode cX5_takeOutBurntComets 29 = .ok (.dup, 1) := by decide +kernel
theorem dX5_takeOutBurntComets_30 : decode cX5_takeOutBurntComets 30 = .ok (.getfield 51, 3) := by decide +kernel
theorem dX5_takeOutBurntComets_33 : decode cX5_takeOutBurntComets 33 = .ok (.iconst 1, 1) := by decide +kernel
theorem dX5_takeOutBurntComets_34 : decode cX5_takeOutBurntComets 34 = .ok (.iadd, 1) := by decide +kernel
theorem dX5_takeOutBurntComets_35 : decode cX5_takeOutBurntComets 35 = .ok (.putfield 51, 3) := by decide +kernel
theorem dX5_takeOutBurntComets_38 : decode cX5_takeOutBurntComets 38 = .ok (.iinc 1 (-1), 3) := by decide +kernel
theorem dX5_takeOutBurntComets_41 : decode cX5_takeOutBurntComets 41 = .ok (.goto (-34), 3) := by decide +kernel
theorem dX5_takeOutBurntComets_44 : decode cX5_takeOutBurntComets 44 = .ok (.return_, 1) := by decide +kernel
theorem dX5_passesAhead_0 : decode cX5_passesAhead 0 = .ok (.iconst 0, 1) := by decide +kernel
theorem dX5_passesAhead_1 : decode cX5_passesAhead 1 = .ok (.istore_n 2, 1) := by decide +kernel
theorem dX5_passesAhead_2 : decode cX5_passesAhead 2 = .ok (.iconst 0, 1) := by decide +kernel
theorem dX5_passesAhead_3 : decode cX5_passesAhead 3 = .ok (.istore_n 3, 1) := by decide +kernel
theorem dX5_passesAhead_4 : decode cX5_passesAhead 4 = .ok (.iload_n 3, 1) := by decide +kernel
theorem dX5_passesAhead_5 : decode cX5_passesAhead 5 = .ok (.aload_n 0, 1) := by decide +kernel
theorem dX5_passesAhead_6 : decode cX5_passesAhead 6 = .ok (.getfield 39, 3) := by decide +kernel
theorem dX5_passesAhead_9 : decode cX5_passesAhead 9 = .ok (.if_icmp .ge 27, 3) := by decide +kernel
theorem dX5_passesAhead_12 : decode cX5_passesAhead 12 = .ok (.iload_n 2, 1) := by decide +kernel
theorem dX5_passesAhead_13 : decode cX5_passesAhead 13 = .ok (.aload_n 0, 1) := by decide +kernel
theorem dX5_passesAhead_14 : decode cX5_passesAhead 14 = .ok (.getfield 11, 3) := by decide +kernel
theorem dX5_passesAhead_17 : decode cX5_passesAhead 17 = .ok (.iload_n 3, 1) := by decide +kernel
theorem dX5_passesAhead_18 : decode cX5_passesAhead 18 = .ok (.aaload, 1) := by decide +kernel
theorem dX5_passesAhead_19 : decode cX5_passesAhead 19 = .ok (.aload_n 0, 1) := by decide +kernel
theorem dX5_passesAhead_20 : decode cX5_passesAhead 20 = .ok (.getfield 45, 3) := by decide +kernel
theorem dX5_passesAhead_23 : decode cX5_passesAhead 23 = .ok (.iload_n 1, 1) := by decide +kernel
theorem dX5_passesAhead_24 : decode cX5_passesAhead 24 = .ok (.iadd, 1) := by decide +kernel
theorem dX5_passesAhead_25 : decode cX5_passesAhead 25 = .ok (.invokevirtual 102, 3) := by decide +kernel
theorem dX5_passesAhead_28 : decode cX5_passesAhead 28 = .ok (.iadd, 1) := by decide +kernel
theorem dX5_passesAhead_29 : decode cX5_passesAhead 29 = .ok (.istore_n 2, 1) := by decide +kernel
theorem dX5_passesAhead_30 : decode cX5_passesAhead 30 = .ok (.iinc 3 1, 3) := by decide +kernel
theorem dX5_passesAhead_33 : decode cX5_passesAhead 33 = .ok (.goto (-29), 3) := by decide +kernel
theorem dX5_passesAhead_36 : decode cX5_passesAhead 36 = .ok (.iload_n 2, 1) := by decide +kernel
theorem dX5_passesAhead_37 : decode cX5_passesAhead 37 = .ok (.ireturn, 1) := by decide +kernel
theorem dX5_idAtRank_0 : decode cX5_idAtRank 0 = .ok (.iconst 0, 1) := by decide +kernel
theorem dX5_idAtRank_1 : decode cX5_idAtRank 1 = .ok (.istore_n 2, 1) := by decide +kernel
theorem dX5_idAtRank_2 : decode cX5_idAtRank 2 = .ok (.iload_n 2, 1) := by decide +kernel
theorem dX5_idAtRank_3 : decode cX5_idAtRank 3 = .ok (.aload_n 0, 1) := by decide +kernel
theorem dX5_idAtRank_4 : decode cX5_idAtRank 4 = .ok (.getfield 39, 3) := by decide +kernel
theorem dX5_idAtRank_7 : decode cX5_idAtRank 7 = .ok (.if_icmp .ge 33, 3) := by decide +kernel
theorem dX5_idAtRank_10 : decode cX5_idAtRank 10 = .ok (.aload_n 0, 1) := by decide +kernel
theorem dX5_idAtRank_11 : decode cX5_idAtRank 11 = .ok (.aload_n 0, 1) := by decide +kernel
theorem dX5_idAtRank_12 : decode cX5_idAtRank 12 = .ok (.getfield 11, 3) := by decide +kernel
theorem dX5_idAtRank_15 : decode cX5_idAtRank 15 = .ok (.iload_n 2, 1) := by decide +kernel
theorem dX5_idAtRank_16 : decode cX5_idAtRank 16 = .ok (.aaload, 1) := by decide +kernel
theorem dX5_idAtRank_17 : decode cX5_idAtRank 17 = .ok (.invokevirtual 105, 3) := by decide +kernel
theorem dX5_idAtRank_20 : decode cX5_idAtRank 20 = .ok (.iload_n 1, 1) := by decide +kernel
theorem dX5_idAtRank_21 : decode cX5_idAtRank 21 = .ok (.if_icmp .ne 13, 3) := by decide +kernel
theorem dX5_idAtRank_24 : decode cX5_idAtRank 24 = .ok (.aload_n 0, 1) := by decide +kernel
theorem dX5_idAtRank_25 : decode cX5_idAtRank 25 = .ok (.getfield 11, 3) := by decide +kernel
theorem dX5_idAtRank_28 : decode cX5_idAtRank 28 = .ok (.iload_n 2, 1) := by decide +kernel
theorem dX5_idAtRank_29 : decode cX5_idAtRank 29 = .ok (.aaload, 1) := by decide +kernel
theorem dX5_idAtRank_30 : decode cX5_idAtRank 30 = .ok (.getfield 58, 3) := by decide +kernel
theorem dX5_idAtRank_33 : decode cX5_idAtRank 33 = .ok (.ireturn, 1) := by decide +kernel
theorem dX5_idAtRank_34 : decode cX5_idAtRank 34 = .ok (.iinc 2 1, 3) := by decide +kernel
theorem dX5_idAtRank_37 : decode cX5_idAtRank 37 = .ok (.goto (-35), 3) := by decide +kernel
theorem dX5_idAtRank_40 : decode cX5_idAtRank 40 = .ok (.iconst (-1), 1) := by decide +kernel
theorem dX5_idAtRank_41 : decode cX5_idAtRank 41 = .ok (.ireturn, 1) := by decide +kernel
theorem dX5_rankOf_0 : decode cX5_rankOf 0 = .ok (.iconst 0, 1) := by decide +kernel
theorem dX5_rankOf_1 : decode cX5_rankOf 1 = .ok (.istore_n 2, 1) := by decide +kernel
theorem dX5_rankOf_2 : decode cX5_rankOf 2 = .ok (.iconst 0, 1) := by decide +kernel
theorem dX5_rankOf_3 : decode cX5_rankOf 3 = .ok (.istore_n 3, 1) := by decide +kernel
theorem dX5_rankOf_4 : decode cX5_rankOf 4 = .ok (.iload_n 3, 1) := by decide +kernel
theorem dX5_rankOf_5 : decode cX5_rankOf 5 = .ok (.aload_n 0, 1) := by decide +kernel
theorem dX5_rankOf_6 : decode cX5_rankOf 6 = .ok (.getfield 39, 3) := by decide +kernel
theorem dX5_rankOf_9 : decode cX5_rankOf 9 = .ok (.if_icmp .ge 25, 3) := by decide +kernel
theorem dX5_rankOf_12 : decode cX5_rankOf 12 = .ok (.aload_n 0, 1) := by decide +kernel
theorem dX5_rankOf_13 : decode cX5_rankOf 13 = .ok (.getfield 11, 3) := by decide +kernel
theorem dX5_rankOf_16 : decode cX5_rankOf 16 = .ok (.iload_n 3, 1) := by decide +kernel
theorem dX5_rankOf_17 : decode cX5_rankOf 17 = .ok (.aaload, 1) := by decide +kernel
theorem dX5_rankOf_18 : decode cX5_rankOf 18 = .ok (.aload_n 1, 1) := by decide +kernel
theorem dX5_rankOf_19 : decode cX5_rankOf 19 = .ok (.invokevirtual 109, 3) := by decide +kernel
theorem dX5_rankOf_22 : decode cX5_rankOf 22 = .ok (.ifCond .eq 6, 3) := by decide +kernel
theorem dX5_rankOf_25 : decode cX5_rankOf 25 = .ok (.iinc 2 1, 3) := by decide +kernel
theorem dX5_rankOf_28 : decode cX5_rankOf 28 = .ok (.iinc 3 1, 3) := by decide +kernel
theorem dX5_rankOf_31 : decode cX5_rankOf 31 = .ok (.goto (-27), 3) := by decide +kernel
theorem dX5_rankOf_34 : decode cX5_rankOf 34 = .ok (.iload_n 2, 1) := by decide +kernel
theorem dX5_rankOf_35 : decode cX5_rankOf 35 = .ok (.ireturn, 1) := by decide +kernel
theorem dX5_allPassesAreAhead_0 : decode cX5_allPassesAreAhead 0 = .ok (.iconst 0, 1) := by decide +kernel
theorem dX5_allPassesAreAhead_1 : decode cX5_allPassesAreAhead 1 = .ok (.istore_n 1, 1) := by decide +kernel
theorem dX5_allPassesAreAhead_2 : decode cX5_allPassesAreAhead 2 = .ok (.iload_n 1, 1) := by decide +kernel
theorem dX5_allPassesAreAhead_3 : decode cX5_allPassesAreAhead 3 = .ok (.aload_n 0, 1) := by decide +kernel
theorem dX5_allPassesAreAhead_4 : decode cX5_allPassesAreAhead 4 = .ok (.getfield 39, 3) := by decide +kernel
theorem dX5_allPassesAreAhead_7 : decode cX5_allPassesAreAhead 7 = .ok (.if_icmp .ge 27, 3) := by decide +kernel
theorem dX5_allPassesAreAhead_10 : decode cX5_allPassesAreAhead 10 = .ok (.aload_n 0, 1) := by decide +kernel
theorem dX5_allPassesAreAhead_11 : decode cX5_allPassesAreAhead 11 = .ok (.getfield 11, 3) := by decide +kernel
theorem dX5_allPassesAreAhead_14 : decode cX5_allPassesAreAhead 14 = .ok (.iload_n 1, 1) := by decide +kernel
theorem dX5_allPassesAreAhead_15 : decode cX5_allPassesAreAhead 15 = .ok (.aaload, 1) := by decide +kernel
theorem dX5_allPassesAreAhead_16 : decode cX5_allPassesAreAhead 16 = .ok (.getfield 67, 3) := by decide +kernel
theorem dX5_allPassesAreAhead_19 : decode cX5_allPassesAreAhead 19 = .ok (.aload_n 0, 1) := by decide +kernel
theorem dX5_allPassesAreAhead_20 : decode cX5_allPassesAreAhead 20 = .ok (.getfield 45, 3) := by decide +kernel
theorem dX5_allPassesAreAhead_23 : decode cX5_allPassesAreAhead 23 = .ok (.if_icmp .gt 5, 3) := by decide +kernel
theorem dX5_allPassesAreAhead_26 : decode cX5_allPassesAreAhead 26 = .ok (.iconst 0, 1) := by decide +kernel
theorem dX5_allPassesAreAhead_27 : decode cX5_allPassesAreAhead 27 = .ok (.ireturn, 1) := by decide +kernel
theorem dX5_allPassesAreAhead_28 : decode cX5_allPassesAreAhead 28 = .ok (.iinc 1 1, 3) := by decide +kernel
theorem dX5_allPassesAreAhead_31 : decode cX5_allPassesAreAhead 31 = .ok (.goto (-29), 3) := by decide +kernel
theorem dX5_allPassesAreAhead_34 : decode cX5_allPassesAreAhead 34 = .ok (.iconst 1, 1) := by decide +kernel
theorem dX5_allPassesAreAhead_35 : decode cX5_allPassesAreAhead 35 = .ok (.ireturn, 1) := by decide +kernel
theorem dX6_init_0 : decode cX6_init 0 = .ok (.aload_n 0, 1) := by decide +kernel
theorem dX6_init_1 : decode cX6_init 1 = .ok (.invokespecial 3, 3) := by decide +kernel
theorem dX6_init_4 : decode cX6_init 4 = .ok (.aload_n 0, 1) := by decide +kernel
theorem dX6_init_5 : decode cX6_init 5 = .ok (.bipush 120, 2) := by decide +kernel
theorem dX6_init_7 : decode cX6_init 7 = .ok (.newarray .int, 2) := by decide +kernel
theorem dX6_init_9 : decode cX6_init 9 = .ok (.putfield 11, 3) := by decide +kernel
theorem dX6_init_12 : decode cX6_init 12 = .ok (.aload_n 0, 1) := by decide +kernel
theorem dX6_init_13 : decode cX6_init 13 = .ok (.bipush 120, 2) := by decide +kernel
theorem dX6_init_15 : decode cX6_init 15 = .ok (.newarray .int, 2) := by decide +kernel
theorem dX6_init_17 : decode cX6_init 17 = .ok (.putfield 15, 3) := by decide +kernel
theorem dX6_init_20 : decode cX6_init 20 = .ok (.aload_n 0, 1) := by decide +kernel
theorem dX6_init_21 : decode cX6_init 21 = .ok (.bipush 120, 2) := by decide +kernel
theorem dX6_init_23 : decode cX6_init 23 = .ok (.newarray .int, 2) := by decide +kernel
theorem dX6_init_25 : decode cX6_init 25 = .ok (.putfield 18, 3) := by decide +kernel
theorem dX6_init_28 : decode cX6_init 28 = .ok (.aload_n 0, 1) := by decide +kernel
theorem dX6_init_29 : decode cX6_init 29 = .ok (.bipush 121, 2) := by decide +kernel
theorem dX6_init_31 : decode cX6_init 31 = .ok (.newarray .int, 2) := by decide +kernel
theorem dX6_init_33 : decode cX6_init 33 = .ok (.putfield 21, 3) := by decide +kernel
theorem dX6_init_36 : decode cX6_init 36 = .ok (.aload_n 0, 1) := by decide +kernel
theorem dX6_init_37 : decode cX6_init 37 = .ok (.bipush 62, 2) := by decide +kernel
theorem dX6_init_39 : decode cX6_init 39 = .ok (.newarray .int, 2) := by decide +kernel
theorem dX6_init_41 : decode cX6_init 41 = .ok (.putfield 24, 3) := by decide +kernel
theorem dX6_init_44 : decode cX6_init 44 = .ok (.aload_n 0, 1) := by decide +kernel
theorem dX6_init_45 : decode cX6_init 45 = .ok (.bipush 62, 2) := by decide +kernel
theorem dX6_init_47 : decode cX6_init 47 = .ok (.newarray .int, 2) := by decide +kernel
theorem dX6_init_49 : decode cX6_init 49 = .ok (.putfield 27, 3) := by decide +kernel
theorem dX6_init_52 : decode cX6_init 52 = .ok (.return_, 1) := by decide +kernel
theorem dX6_aim_0 : decode cX6_aim 0 = .ok (.aload_n 0, 1) := by decide +kernel
theorem dX6_aim_1 : decode cX6_aim 1 = .ok (.iconst 0, 1) := by decide +kernel
theorem dX6_aim_2 : decode cX6_aim 2 = .ok (.putfield 30, 3) := by decide +kernel
theorem dX6_aim_5 : decode cX6_aim 5 = .ok (.iconst 0, 1) := by decide +kernel
theorem dX6_aim_6 : decode cX6_aim 6 = .ok (.istore_n 3, 1) := by decide +kernel
theorem dX6_aim_7 : decode cX6_aim 7 = .ok (.iload_n 3, 1) := by decide +kernel
theorem dX6_aim_8 : decode cX6_aim 8 = .ok (.aload_n 1, 1) := by decide +kernel
theorem dX6_aim_9 : decode cX6_aim 9 = .ok (.getfield 34, 3) := by decide +kernel
theorem dX6_aim_12 : decode cX6_aim 12 = .ok (.if_icmp .ge 91, 3) := by decide +kernel
theorem dX6_aim_15 : decode cX6_aim 15 = .ok (.aload_n 1, 1) := by decide +kernel
theorem dX6_aim_16 : decode cX6_aim 16 = .ok (.getfield 37, 3) := by decide +kernel
theorem dX6_aim_19 : decode cX6_aim 19 = .ok (.iload_n 3, 1) := by decide +kernel
theorem dX6_aim_20 : decode cX6_aim 20 = .ok (.aaload, 1) := by decide +kernel
theorem dX6_aim_21 : decode cX6_aim 21 = .ok (.astore 4, 2) := by decide +kernel
theorem dX6_aim_23 : decode cX6_aim 23 = .ok (.aload 4, 2) := by decide +kernel
theorem dX6_aim_25 : decode cX6_aim 25 = .ok (.getfield 41, 3) := by decide +kernel
theorem dX6_aim_28 : decode cX6_aim 28 = .ok (.aload_n 1, 1) := by decide +kernel
theorem dX6_aim_29 : decode cX6_aim 29 = .ok (.getfield 46, 3) := by decide +kernel
theorem dX6_aim_32 : decode cX6_aim 32 = .ok (.isub, 1) := by decide +kernel
theorem dX6_aim_33 : decode cX6_aim 33 = .ok (.istore 5, 2) := by decide +kernel
theorem dX6_aim_35 : decode cX6_aim 35 = .ok (.aload 4, 2) := by decide +kernel
theorem dX6_aim_37 : decode cX6_aim 37 = .ok (.getfield 49, 3) := by decide +kernel
theorem dX6_aim_40 : decode cX6_aim 40 = .ok (.istore 6, 2) := by decide +kernel
theorem dX6_aim_42 : decode cX6_aim 42 = .ok (.iload 6, 2) := by decide +kernel
theorem dX6_aim_44 : decode cX6_aim 44 = .ok (.ifCond .le 53, 3) := by decide +kernel
theorem dX6_aim_47 : decode cX6_aim 47 = .ok (.iload 5, 2) := by decide +kernel
theorem dX6_aim_49 : decode cX6_aim 49 = .ok (.iload_n 2, 1) := by decide +kernel
theorem dX6_aim_50 : decode cX6_aim 50 = .ok (.if_icmp .gt 47, 3) := by decide +kernel
theorem dX6_aim_53 : decode cX6_aim 53 = .ok (.iload 5, 2) := by decide +kernel
theorem dX6_aim_55 : decode cX6_aim 55 = .ok (.iload 6, 2) := by decide +kernel
theorem dX6_aim_57 : decode cX6_aim 57 = .ok (.invokestatic 52, 3) := by decide +kernel
theorem dX6_aim_60 : decode cX6_aim 60 = .ok (.iadd, 1) := by decide +kernel
theorem dX6_aim_61 : decode cX6_aim 61 = .ok (.iconst 1, 1) := by decide +kernel
theorem dX6_aim_62 : decode cX6_aim 62 = .ok (.isub, 1) := by decide +kernel
theorem dX6_aim_63 : decode cX6_aim 63 = .ok (.istore 7, 2) := by decide +kernel
theorem dX6_aim_65 : decode cX6_aim 65 = .ok (.iload 7, 2) := by decide +kernel
theorem dX6_aim_67 : decode cX6_aim 67 = .ok (.iload_n 2, 1) := by decide +kernel
theorem dX6_aim_68 : decode cX6_aim 68 = .ok (.if_icmp .gt 13, 3) := by decide +kernel
theorem dX6_aim_71 : decode cX6_aim 71 = .ok (.aload_n 0, 1) := by decide +kernel
theorem dX6_aim_72 : decode cX6_aim 72 = .ok (.iload 5, 2) := by decide +kernel
theorem dX6_aim_74 : decode cX6_aim 74 = .ok (.iload 7, 2) := by decide +kernel
theorem dX6_aim_76 : decode cX6_aim 76 = .ok (.iload 6, 2) := by decide +kernel
theorem dX6_aim_78 : decode cX6_aim 78 = .ok (.invokevirtual 56, 3) := by decide +kernel
theorem dX6_aim_81 : decode cX6_aim 81 = .ok (.iload 5, 2) := by decide +kernel
theorem dX6_aim_83 : decode cX6_aim 83 = .ok (.aload 4, 2) := by decide +kernel
theorem dX6_aim_85 : decode cX6_aim 85 = .ok (.getfield 60, 3) := by decide +kernel
theorem dX6_aim_88 : decode cX6_aim 88 = .ok (.iadd, 1) := by decide +kernel
theorem dX6_aim_89 : decode cX6_aim 89 = .ok (.istore 5, 2) := by decide +kernel
theorem dX6_aim_91 : decode cX6_aim 91 = .ok (.iinc 6 (-1), 3) := by decide +kernel
theorem dX6_aim_94 : decode cX6_aim 94 = .ok (.goto (-52), 3) := by decide +kernel
theorem dX6_aim_97 : decode cX6_aim 97 = .ok (.iinc 3 1, 3) := by decide +kernel
theorem dX6_aim_100 : decode cX6_aim 100 = .ok (.goto (-93), 3) := by decide +kernel
theorem dX6_aim_103 : decode cX6_aim 103 = .ok (.return_, 1) := by decide +kernel
theorem dX6_insert_0 : decode cX6_insert 0 = .ok (.aload_n 0, 1) := by decide +kernel
theorem dX6_insert_1 : decode cX6_insert 1 = .ok (.getfield 30, 3) := by decide +kernel
theorem dX6_insert_4 : decode cX6_insert 4 = .ok (.bipush 120, 2) := by decide +kernel
theorem dX6_insert_6 : decode cX6_insert 6 = .ok (.if_icmp .lt 4, 3) := by decide +kernel
theorem dX6_insert_9 : decode cX6_insert 9 = .ok (.return_, 1) := by decide +kernel
theorem dX6_insert_10 : decode cX6_insert 10 = .ok (.aload_n 0, 1) := by decide +kernel
theorem dX6_insert_11 : decode cX6_insert 11 = .ok (.getfield 30, 3) := by decide +kernel
theorem dX6_insert_14 : decode cX6_insert 14 = .ok (.istore 4, 2) := by decide +kernel
theorem dX6_insert_16 : decode cX6_insert 16 = .ok (.iload 4, 2) := by decide +kernel
theorem dX6_insert_18 : decode cX6_insert 18 = .ok (.ifCond .le 70, 3) := by decide +kernel
theorem dX6_insert_21 : decode cX6_insert 21 = .ok (.aload_n 0, 1) := by decide +kernel
theorem dX6_insert_22 : decode cX6_insert 22 = .ok (.getfield 15, 3) := by decide +kernel
theorem dX6_insert_25 : decode cX6_insert 25 = .ok (.iload 4, 2) := by decide +kernel
theorem dX6_insert_27 : decode cX6_insert 27 = .ok (.iconst 1, 1) := by decide +kernel
theorem dX6_insert_28 : decode cX6_insert 28 = .ok (.isub, 1) := by decide +kernel
theorem dX6_insert_29 : decode cX6_insert 29 = .ok (.iaload, 1) := by decide +kernel
theorem dX6_insert_30 : decode cX6_insert 30 = .ok (.iload_n 2, 1) := by decide +kernel
theorem dX6_insert_31 : decode cX6_insert 31 = .ok (.if_icmp .le 57, 3) := by decide +kernel
theorem dX6_insert_34 : decode cX6_insert 34 = .ok (.aload_n 0, 1) := by decide +kernel
theorem dX6_insert_35 : decode cX6_insert 35 = .ok (.getfield 11, 3) := by decide +kernel
theorem dX6_insert_38 : decode cX6_insert 38 = .ok (.iload 4, 2) := by decide +kernel
theorem dX6_insert_40 : decode cX6_insert 40 = .ok (.aload_n 0, 1) := by decide +kernel
theorem dX6_insert_41 : decode cX6_insert 41 = .ok (.getfield 11, 3) := by decide +kernel
theorem dX6_insert_44 : decode cX6_insert 44 = .ok (.iload 4, 2) := by decide +kernel
theorem dX6_insert_46 : decode cX6_insert 46 = .ok (.iconst 1, 1) := by decide +kernel
theorem dX6_insert_47 : decode cX6_insert 47 = .ok (.isub, 1) := by decide +kernel
theorem dX6_insert_48 : decode cX6_insert 48 = .ok (.iaload, 1) := by decide +kernel
theorem dX6_insert_49 : decode cX6_insert 49 = .ok (.iastore, 1) := by decide +kernel
theorem dX6_insert_50 : decode cX6_insert 50 = .ok (.aload_n 0, 1) := by decide +kernel
theorem dX6_insert_51 : decode cX6_insert 51 = .ok (.getfield 15, 3) := by decide +kernel
theorem dX6_insert_54 : decode cX6_insert 54 = .ok (.iload 4, 2) := by decide +kernel
theorem dX6_insert_56 : decode cX6_insert 56 = .ok (.aload_n 0, 1) := by decide +kernel
theorem dX6_insert_57 : decode cX6_insert 57 = .ok (.getfield 15, 3) := by decide +kernel
theorem dX6_insert_60 : decode cX6_insert 60 = .ok (.iload 4, 2) := by decide +kernel
theorem dX6_insert_62 : decode cX6_insert 62 = .ok (.iconst 1, 1) := by decide +kernel
theorem dX6_insert_63 : decode cX6_insert 63 = .ok (.isub, 1) := by decide +kernel
theorem dX6_insert_64 : decode cX6_insert 64 = .ok (.iaload, 1) := by decide +kernel
theorem dX6_insert_65 : decode cX6_insert 65 = .ok (.iastore, 1) := by decide +kernel
theorem dX6_insert_66 : decode cX6_insert 66 = .ok (.aload_n 0, 1) := by decide +kernel
theorem dX6_insert_67 : decode cX6_insert 67 = .ok (.getfield 18, 3) := by decide +kernel
theorem dX6_insert_70 : decode cX6_insert 70 = .ok (.iload 4, 2) := by decide +kernel
theorem dX6_insert_72 : decode cX6_insert 72 = .ok (.aload_n 0, 1) := by decide +kernel
theorem dX6_insert_73 : decode cX6_insert 73 = .ok (.getfield 18, 3) := by decide +kernel
theorem dX6_insert_76 : decode cX6_insert 76 = .ok (.iload 4, 2) := by decide +kernel
theorem dX6_insert_78 : decode cX6_insert 78 = .ok (.iconst 1, 1) := by decide +kernel
theorem dX6_insert_79 : decode cX6_insert 79 = .ok (.isub, 1) := by decide +kernel
theorem dX6_insert_80 : decode cX6_insert 80 = .ok (.iaload, 1) := by decide +kernel
theorem dX6_insert_81 : decode cX6_insert 81 = .ok (.iastore, 1) := by decide +kernel
theorem dX6_insert_82 : decode cX6_insert 82 = .ok (.iinc 4 (-1), 3) := by decide +kernel
theorem dX6_insert_85 : decode cX6_insert 85 = .ok (.goto (-69), 3) := by decide +kernel
theorem dX6_insert_88 : decode cX6_insert 88 = .ok (.aload_n 0, 1) := by decide +kernel
theorem dX6_insert_89 : decode cX6_insert 89 = .ok (.getfield 11, 3) := by decide +kernel
theorem dX6_insert_92 : decode cX6_insert 92 = .ok (.iload 4, 2) := by decide +kernel
theorem dX6_insert_94 : decode cX6_insert 94 = .ok (.iload_n 1, 1) := by decide +kernel
theorem dX6_insert_95 : decode cX6_insert 95 = .ok (.iastore, 1) := by decide +kernel
theorem dX6_insert_96 : decode cX6_insert 96 = .ok (.aload_n 0, 1) := by decide +kernel
theorem dX6_insert_97 : decode cX6_insert 97 = .ok (.getfield 15, 3) := by decide +kernel
theorem dX6_insert_100 : decode cX6_insert 100 = .ok (.iload 4, 2) := by decide +kernel
theorem dX6_insert_102 : decode cX6_insert 102 = .ok (.iload_n 2, 1) := by decide +kernel
theorem dX6_insert_103 : decode cX6_insert 103 = .ok (.iastore, 1) := by decide +kernel
theorem dX6_insert_104 : decode cX6_insert 104 = .ok (.aload_n 0, 1) := by decide +kernel
theorem dX6_insert_105 : decode cX6_insert 105 = .ok (.getfield 18, 3) := by decide +kernel
theorem dX6_insert_108 : decode cX6_insert 108 = .ok (.iload 4, 2) := by decide +kernel
theorem dX6_insert_110 : decode cX6_insert 110 = .ok (.iload_n 3, 1) := by decide +kernel
theorem dX6_insert_111 : decode cX6_insert 111 = .ok (.iastore, 1) := by decide +kernel
theorem dX6_insert_112 : decode cX6_insert 112 = .ok (.aload_n 0, 1) := by decide +kernel
theorem dX6_insert_113 : decode cX6_insert 113 = .ok (.dup, 1) := by decide +kernel
theorem dX6_insert_114 : decode cX6_insert 114 = .ok (.getfield 30, 3) := by decide +kernel
theorem dX6_insert_117 : decode cX6_insert 117 = .ok (.iconst 1, 1) := by decide +kernel
theorem dX6_insert_118 : decode cX6_insert 118 = .ok (.iadd, 1) := by decide +kernel
theorem dX6_insert_119 : decode cX6_insert 119 = .ok (.putfield 30, 3) := by decide +kernel
theorem dX6_insert_122 : decode cX6_insert 122 = .ok (.return_, 1) := by decide +kernel
theorem dX6_worthByPasses_0 : decode cX6_worthByPasses 0 = .ok (.aload_n 0, 1) := by decide +kernel
theorem dX6_worthByPasses_1 : decode cX6_worthByPasses 1 = .ok (.getfield 21, 3) := by decide +kernel
theorem dX6_worthByPasses_4 : decode cX6_worthByPasses 4 = .ok (.iconst 0, 1) := by decide +kernel
theorem dX6_worthByPasses_5 : decode cX6_worthByPasses 5 = .ok (.iconst 0, 1) := by decide +kernel
theorem dX6_worthByPasses_6 : decode cX6_worthByPasses 6 = .ok (.iastore, 1) := by decide +kernel
theorem dX6_worthByPasses_7 : decode cX6_worthByPasses 7 = .ok (.iconst 0, 1) := by decide +kernel
theorem dX6_worthByPasses_8 : decode cX6_worthByPasses 8 = .ok (.istore_n 1, 1) := by decide +kernel
theorem dX6_worthByPasses_9 : decode cX6_worthByPasses 9 = .ok (.iload_n 1, 1) := by decide +kernel
theorem dX6_worthByPasses_10 : decode cX6_worthByPasses 10 = .ok (.aload_n 0, 1) := by decide +kernel
theorem dX6_worthByPasses_11 : decode cX6_worthByPasses 11 = .ok (.getfield 30, 3) := by decide +kernel
theorem dX6_worthByPasses_14 : decode cX6_worthByPasses 14 = .ok (.if_icmp .ge 51, 3) := by decide +kernel
theorem dX6_worthByPasses_17 : decode cX6_worthByPasses 17 = .ok (.aload_n 0, 1) := by decide +kernel
theorem dX6_worthByPasses_18 : decode cX6_worthByPasses 18 = .ok (.getfield 18, 3) := by decide +kernel
theorem dX6_worthByPasses_21 : decode cX6_worthByPasses 21 = .ok (.iload_n 1, 1) := by decide +kernel
theorem dX6_worthByPasses_22 : decode cX6_worthByPasses 22 = .ok (.iaload, 1) := by decide +kernel
theorem dX6_worthByPasses_23 : decode cX6_worthByPasses 23 = .ok (.aload_n 0, 1) := by decide +kernel
theorem dX6_worthByPasses_24 : decode cX6_worthByPasses 24 = .ok (.getfield 21, 3) := by decide +kernel
theorem dX6_worthByPasses_27 : decode cX6_worthByPasses 27 = .ok (.aload_n 0, 1) := by decide +kernel
theorem dX6_worthByPasses_28 : decode cX6_worthByPasses 28 = .ok (.aload_n 0, 1) := by decide +kernel
theorem dX6_worthByPasses_29 : decode cX6_worthByPasses 29 = .ok (.getfield 11, 3) := by decide +kernel
theorem dX6_worthByPasses_32 : decode cX6_worthByPasses 32 = .ok (.iload_n 1, 1) := by decide +kernel
theorem dX6_worthByPasses_33 : decode cX6_worthByPasses 33 = .ok (.iaload, 1) := by decide +kernel
theorem dX6_worthByPasses_34 : decode cX6_worthByPasses 34 = .ok (.iload_n 1, 1) := by decide +kernel
theorem dX6_worthByPasses_35 : decode cX6_worthByPasses 35 = .ok (.invokevirtual 63, 3) := by decide +kernel
theorem dX6_worthByPasses_38 : decode cX6_worthByPasses 38 = .ok (.iaload, 1) := by decide +kernel
theorem dX6_worthByPasses_39 : decode cX6_worthByPasses 39 = .ok (.iadd, 1) := by decide +kernel
theorem dX6_worthByPasses_40 : decode cX6_worthByPasses 40 = .ok (.istore_n 2, 1) := by decide +kernel
theorem dX6_worthByPasses_41 : decode cX6_worthByPasses 41 = .ok (.aload_n 0, 1) := by decide +kernel
theorem dX6_worthByPasses_42 : decode cX6_worthByPasses 42 = .ok (.getfield 21, 3) := by decide +kernel
theorem dX6_worthByPasses_45 : decode cX6_worthByPasses 45 = .ok (.iload_n 1, 1) := by decide +kernel
theorem dX6_worthByPasses_46 : decode cX6_worthByPasses 46 = .ok (.iconst 1, 1) := by decide +kernel
theorem dX6_worthByPasses_47 : decode cX6_worthByPasses 47 = .ok (.iadd, 1) := by decide +kernel
theorem dX6_worthByPasses_48 : decode cX6_worthByPasses 48 = .ok (.aload_n 0, 1) := by decide +kernel
theorem dX6_worthByPasses_49 : decode cX6_worthByPasses 49 = .ok (.getfield 21, 3) := by decide +kernel
theorem dX6_worthByPasses_52 : decode cX6_worthByPasses 52 = .ok (.iload_n 1, 1) := by decide +kernel
theorem dX6_worthByPasses_53 : decode cX6_worthByPasses 53 = .ok (.iaload, 1) := by decide +kernel
theorem dX6_worthByPasses_54 : decode cX6_worthByPasses 54 = .ok (.iload_n 2, 1) := by decide +kernel
theorem dX6_worthByPasses_55 : decode cX6_worthByPasses 55 = .ok (.invokestatic 67, 3) := by decide +kernel
theorem dX6_worthByPasses_58 : decode cX6_worthByPasses 58 = .ok (.iastore, 1) := by decide +kernel
theorem dX6_worthByPasses_59 : decode cX6_worthByPasses 59 = .ok (.iinc 1 1, 3) := by decide +kernel
theorem dX6_worthByPasses_62 : decode cX6_worthByPasses 62 = .ok (.goto (-53), 3) := by decide +kernel
theorem dX6_worthByPasses_65 : decode cX6_worthByPasses 65 = .ok (.aload_n 0, 1) := by decide +kernel
theorem dX6_worthByPasses_66 : decode cX6_worthByPasses 66 = .ok (.getfield 21, 3) := by decide +kernel
theorem dX6_worthByPasses_69 : decode cX6_worthByPasses 69 = .ok (.aload_n 0, 1) := by decide +kernel
theorem dX6_worthByPasses_70 : decode cX6_worthByPasses 70 = .ok (.getfield 30, 3) := by decide +kernel
theorem dX6_worthByPasses_73 : decode cX6_worthByPasses 73 = .ok (.iaload, 1) := by decide +kernel
theorem dX6_worthByPasses_74 : decode cX6_worthByPasses 74 = .ok (.ireturn, 1) := by decide +kernel
theorem dX6_endedBefore_0 : decode cX6_endedBefore 0 = .ok (.iload_n 2, 1) := by decide +kernel
theorem dX6_endedBefore_1 : decode cX6_endedBefore 1 = .ok (.istore_n 3, 1) := by decide +kernel
theorem dX6_endedBefore_2 : decode cX6_endedBefore 2 = .ok (.iload_n 3, 1) := by decide +kernel
theorem dX6_endedBefore_3 : decode cX6_endedBefore 3 = .ok (.ifCond .le 21, 3) := by decide +kernel
theorem dX6_endedBefore_6 : decode cX6_endedBefore 6 = .ok (.aload_n 0, 1) := by decide +kernel
theorem dX6_endedBefore_7 : decode cX6_endedBefore 7 = .ok (.getfield 15, 3) := by decide +kernel
theorem dX6_endedBefore_10 : decode cX6_endedBefore 10 = .ok (.iload_n 3, 1) := by decide +kernel
theorem dX6_endedBefore_11 : decode cX6_endedBefore 11 = .ok (.iconst 1, 1) := by decide +kernel
theorem dX6_endedBefore_12 : decode cX6_endedBefore 12 = .ok (.isub, 1) := by decide +kernel
theorem dX6_endedBefore_13 : decode cX6_endedBefore 13 = .ok (.iaload, 1) := by decide +kernel
theorem dX6_endedBefore_14 : decode cX6_endedBefore 14 = .ok (.iload_n 1, 1) := by decide +kernel
theorem dX6_endedBefore_15 : decode cX6_endedBefore 15 = .ok (.if_icmp .lt 9, 3) := by decide +kernel
theorem dX6_endedBefore_18 : decode cX6_endedBefore 18 = .ok (.iinc 3 (-1), 3) := by decide +kernel
theorem dX6_endedBefore_21 : decode cX6_endedBefore 21 = .ok (.goto (-19), 3) := by decide +kernel
theorem dX6_endedBefore_24 : decode cX6_endedBefore 24 = .ok (.iload_n 3, 1) := by decide +kernel
theorem dX6_endedBefore_25 : decode cX6_endedBefore 25 = .ok (.ireturn, 1) := by decide +kernel
theorem dX6_planByDays_0 : decode cX6_planByDays 0 = .ok (.aload_n 0, 1) := by decide +kernel
theorem dX6_planByDays_1 : decode cX6_planByDays 1 = .ok (.getfield 24, 3) := by decide +kernel
theorem dX6_planByDays_4 : decode cX6_planByDays 4 = .ok (.iload_n 1, 1) := by decide +kernel
theorem dX6_planByDays_5 : decode cX6_planByDays 5 = .ok (.iconst 1, 1) := by decide +kernel
theorem dX6_planByDays_6 : decode cX6_planByDays 6 = .ok (.iadd, 1) := by decide +kernel
theorem dX6_planByDays_7 : decode cX6_planByDays 7 = .ok (.iconst 0, 1) := by decide +kernel
theorem dX6_planByDays_8 : decode cX6_planByDays 8 = .ok (.iastore, 1) := by decide +kernel
theorem dX6_planByDays_9 : decode cX6_planByDays 9 = .ok (.aload_n 0, 1) := by decide +kernel
theorem dX6_planByDays_10 : decode cX6_planByDays 10 = .ok (.getfield 27, 3) := by decide +kernel
theorem dX6_planByDays_13 : decode cX6_planByDays 13 = .ok (.iload_n 1, 1) := by decide +kernel
theorem dX6_planByDays_14 : decode cX6_planByDays 14 = .ok (.iconst 1, 1) := by decide +kernel
theorem dX6_planByDays_15 : decode cX6_planByDays 15 = .ok (.iadd, 1) := by decide +kernel
theorem dX6_planByDays_16 : decode cX6_planByDays 16 = .ok (.iconst 0, 1) := by decide +kernel
theorem dX6_planByDays_17 : decode cX6_planByDays 17 = .ok (.iastore, 1) := by decide +kernel
theorem dX6_planByDays_18 : decode cX6_planByDays 18 = .ok (.iload_n 1, 1) := by decide +kernel
theorem dX6_planByDays_19 : decode cX6_planByDays 19 = .ok (.istore_n 2, 1) := by decide +kernel
theorem dX6_planByDays_20 : decode cX6_planByDays 20 = .ok (.iload_n 2, 1) := by decide +kernel
theorem dX6_planByDays_21 : decode cX6_planByDays 21 = .ok (.ifCond .le 103, 3) := by decide +kernel
theorem dX6_planByDays_24 : decode cX6_planByDays 24 = .ok (.aload_n 0, 1) := by decide +kernel
theorem dX6_planByDays_25 : decode cX6_planByDays 25 = .ok (.getfield 24, 3) := by decide +kernel
theorem dX6_planByDays_28 : decode cX6_planByDays 28 = .ok (.iload_n 2, 1) := by decide +kernel
theorem dX6_planByDays_29 : decode cX6_planByDays 29 = .ok (.aload_n 0, 1) := by decide +kernel
theorem dX6_planByDays_30 : decode cX6_planByDays 30 = .ok (.getfield 24, 3) := by decide +kernel
theorem dX6_planByDays_33 : decode cX6_planByDays 33 = .ok (.iload_n 2, 1) := by decide +kernel
theorem dX6_planByDays_34 : decode cX6_planByDays 34 = .ok (.iconst 1, 1) := by decide +kernel
theorem dX6_planByDays_35 : decode cX6_planByDays 35 = .ok (.iadd, 1) := by decide +kernel
theorem dX6_planByDays_36 : decode cX6_planByDays 36 = .ok (.iaload, 1) := by decide +kernel
theorem dX6_planByDays_37 : decode cX6_planByDays 37 = .ok (.iastore, 1) := by decide +kernel
theorem dX6_planByDays_38 : decode cX6_planByDays 38 = .ok (.aload_n 0, 1) := by decide +kernel
theorem dX6_planByDays_39 : decode cX6_planByDays 39 = .ok (.getfield 27, 3) := by decide +kernel
theorem dX6_planByDays_42 : decode cX6_planByDays 42 = .ok (.iload_n 2, 1) := by decide +kernel
theorem dX6_planByDays_43 : decode cX6_planByDays 43 = .ok (.aload_n 0, 1) := by decide +kernel
theorem dX6_planByDays_44 : decode cX6_planByDays 44 = .ok (.getfield 27, 3) := by decide +kernel
theorem dX6_planByDays_47 : decode cX6_planByDays 47 = .ok (.iload_n 2, 1) := by decide +kernel
theorem dX6_planByDays_48 : decode cX6_planByDays 48 = .ok (.iconst 1, 1) := by decide +kernel
theorem dX6_planByDays_49 : decode cX6_planByDays 49 = .ok (.iadd, 1) := by decide +kernel
theorem dX6_planByDays_50 : decode cX6_planByDays 50 = .ok (.iaload, 1) := by decide +kernel
theorem dX6_planByDays_51 : decode cX6_planByDays 51 = .ok (.iastore, 1) := by decide +kernel
theorem dX6_planByDays_52 : decode cX6_planByDays 52 = .ok (.iconst 0, 1) := by decide +kernel
theorem dX6_planByDays_53 : decode cX6_planByDays 53 = .ok (.istore_n 3, 1) := by decide +kernel
theorem dX6_planByDays_54 : decode cX6_planByDays 54 = .ok (.iload_n 3, 1) := by decide +kernel
theorem dX6_planByDays_55 : decode cX6_planByDays 55 = .ok (.aload_n 0, 1) := by decide +kernel
theorem dX6_planByDays_56 : decode cX6_planByDays 56 = .ok (.getfield 30, 3) := by decide +kernel
theorem dX6_planByDays_59 : decode cX6_planByDays 59 = .ok (.if_icmp .ge 59, 3) := by decide +kernel
theorem dX6_planByDays_62 : decode cX6_planByDays 62 = .ok (.aload_n 0, 1) := by decide +kernel
theorem dX6_planByDays_63 : decode cX6_planByDays 63 = .ok (.getfield 11, 3) := by decide +kernel
theorem dX6_planByDays_66 : decode cX6_planByDays 66 = .ok (.iload_n 3, 1) := by decide +kernel
theorem dX6_planByDays_67 : decode cX6_planByDays 67 = .ok (.iaload, 1) := by decide +kernel
theorem dX6_planByDays_68 : decode cX6_planByDays 68 = .ok (.iload_n 2, 1) := by decide +kernel
theorem dX6_planByDays_69 : decode cX6_planByDays 69 = .ok (.if_icmp .ne 43, 3) := by decide +kernel
theorem dX6_planByDays_72 : decode cX6_planByDays 72 = .ok (.aload_n 0, 1) := by decide +kernel
theorem dX6_planByDays_73 : decode cX6_planByDays 73 = .ok (.iload_n 2, 1) := by decide +kernel
theorem dX6_planByDays_74 : decode cX6_planByDays 74 = .ok (.aload_n 0, 1) := by decide +kernel
theorem dX6_planByDays_75 : decode cX6_planByDays 75 = .ok (.getfield 18, 3) := by decide +kernel
theorem dX6_planByDays_78 : decode cX6_planByDays 78 = .ok (.iload_n 3, 1) := by decide +kernel
theorem dX6_planByDays_79 : decode cX6_planByDays 79 = .ok (.iaload, 1) := by decide +kernel
theorem dX6_planByDays_80 : decode cX6_planByDays 80 = .ok (.aload_n 0, 1) := by decide +kernel
theorem dX6_planByDays_81 : decode cX6_planByDays 81 = .ok (.getfield 24, 3) := by decide +kernel
theorem dX6_planByDays_84 : decode cX6_planByDays 84 = .ok (.aload_n 0, 1) := by decide +kernel
theorem dX6_planByDays_85 : decode cX6_planByDays 85 = .ok (.getfield 15, 3) := by decide +kernel
theorem dX6_planByDays_88 : decode cX6_planByDays 88 = .ok (.iload_n 3, 1) := by decide +kernel
theorem dX6_planByDays_89 : decode cX6_planByDays 89 = .ok (.iaload, 1) := by decide +kernel
theorem dX6_planByDays_90 : decode cX6_planByDays 90 = .ok (.iconst 1, 1) := by decide +kernel
theorem dX6_planByDays_91 : decode cX6_planByDays 91 = .ok (.iadd, 1) := by decide +kernel
theorem dX6_planByDays_92 : decode cX6_planByDays 92 = .ok (.iaload, 1) := by decide +kernel
theorem dX6_planByDays_93 : decode cX6_planByDays 93 = .ok (.iadd, 1) := by decide +kernel
theorem dX6_planByDays_94 : decode cX6_planByDays 94 = .ok (.iconst 1, 1) := by decide +kernel
theorem dX6_planByDays_95 : decode cX6_planByDays 95 = .ok (.aload_n 0, 1) := by decide +kernel
theorem dX6_planByDays_96 : decode cX6_planByDays 96 = .ok (.getfield 27, 3) := by decide +kernel
theorem dX6_planByDays_99 : decode cX6_planByDays 99 = .ok (.aload_n 0, 1) := by decide +kernel
theorem dX6_planByDays_100 : decode cX6_planByDays 100 = .ok (.getfield 15, 3) := by decide +kernel
theorem dX6_planByDays_103 : decode cX6_planByDays 103 = .ok (.iload_n 3, 1) := by decide +kernel
theorem dX6_planByDays_104 : decode cX6_planByDays 104 = .ok (.iaload, 1) := by decide +kernel
theorem dX6_planByDays_105 : decode cX6_planByDays 105 = .ok (.iconst 1, 1) := by decide +kernel
theorem dX6_planByDays_106 : decode cX6_planByDays 106 = .ok (.iadd, 1) := by decide +kernel
theorem dX6_planByDays_107 : decode cX6_planByDays 107 = .ok (.iaload, 1) := by decide +kernel
theorem dX6_planByDays_108 : decode cX6_planByDays 108 = .ok (.iadd, 1) := by decide +kernel
theorem dX6_planByDays_109 : decode cX6_planByDays 109 = .ok (.invokevirtual 72, 3) := by decide +kernel
theorem dX6_planByDays_112 : decode cX6_planByDays 112 = .ok (.iinc 3 1, 3) := by decide +kernel
theorem dX6_planByDays_115 : decode cX6_planByDays 115 = .ok (.goto (-61), 3) := by decide +kernel
theorem dX6_planByDays_118 : decode cX6_planByDays 118 = .ok (.iinc 2 (-1), 3) := by decide +kernel
theorem dX6_planByDays_121 : decode cX6_planByDays 121 = .ok (.goto (-101), 3) := by decide +kernel
theorem dX6_planByDays_124 : decode cX6_planByDays 124 = .ok (.return_, 1) := by decide +kernel
theorem dX6_offer_0 : decode cX6_offer 0 = .ok (.iload_n 2, 1) := by decide +kernel
theorem dX6_offer_1 : decode cX6_offer 1 = .ok (.aload_n 0, 1) := by decide +kernel
theorem dX6_offer_2 : decode cX6_offer 2 = .ok (.getfield 24, 3) := by decide +kernel
theorem dX6_offer_5 : decode cX6_offer 5 = .ok (.iload_n 1, 1) := by decide +kernel
theorem dX6_offer_6 : decode cX6_offer 6 = .ok (.iaload, 1) := by decide +kernel
theorem dX6_offer_7 : decode cX6_offer 7 = .ok (.if_icmp .gt 23, 3) := by decide +kernel
theorem dX6_offer_10 : decode cX6_offer 10 = .ok (.iload_n 2, 1) := by decide +kernel
theorem dX6_offer_11 : decode cX6_offer 11 = .ok (.aload_n 0, 1) := by decide +kernel
theorem dX6_offer_12 : decode cX6_offer 12 = .ok (.getfield 24, 3) := by decide +kernel
theorem dX6_offer_15 : decode cX6_offer 15 = .ok (.iload_n 1, 1) := by decide +kernel
theorem dX6_offer_16 : decode cX6_offer 16 = .ok (.iaload, 1) := by decide +kernel
theorem dX6_offer_17 : decode cX6_offer 17 = .ok (.if_icmp .ne 27, 3) := by decide +kernel
theorem dX6_offer_20 : decode cX6_offer 20 = .ok (.iload_n 3, 1) := by decide +kernel
theorem dX6_offer_21 : decode cX6_offer 21 = .ok (.aload_n 0, 1) := by decide +kernel
theorem dX6_offer_22 : decode cX6_offer 22 = .ok (.getfield 27, 3) := by decide +kernel
theorem dX6_offer_25 : decode cX6_offer 25 = .ok (.iload_n 1, 1) := by decide +kernel
theorem dX6_offer_26 : decode cX6_offer 26 = .ok (.iaload, 1) := by decide +kernel
theorem dX6_offer_27 : decode cX6_offer 27 = .ok (.if_icmp .ge 17, 3) := by decide +kernel
theorem dX6_offer_30 : decode cX6_offer 30 = .ok (.aload_n 0, 1) := by decide +kernel
theorem dX6_offer_31 : decode cX6_offer 31 = .ok (.getfield 24, 3) := by decide +kernel
theorem dX6_offer_34 : decode cX6_offer 34 = .ok (.iload_n 1, 1) := by decide +kernel
theorem dX6_offer_35 : decode cX6_offer 35 = .ok (.iload_n 2, 1) := by decide +kernel
theorem dX6_offer_36 : decode cX6_offer 36 = .ok (.iastore, 1) := by decide +kernel
theorem dX6_offer_37 : decode cX6_offer 37 = .ok (.aload_n 0, 1) := by decide +kernel
theorem dX6_offer_38 : decode cX6_offer 38 = .ok (.getfield 27, 3) := by decide +kernel
theorem dX6_offer_41 : decode cX6_offer 41 = .ok (.iload_n 1, 1) := by decide +kernel
theorem dX6_offer_42 : decode cX6_offer 42 = .ok (.iload_n 3, 1) := by decide +kernel
theorem dX6_offer_43 : decode cX6_offer 43 = .ok (.iastore, 1) := by decide +kernel
theorem dX6_offer_44 : decode cX6_offer 44 = .ok (.return_, 1) := by decide +kernel
theorem dX7_init_0 : decode cX7_init 0 = .ok (.aload_n 0, 1) := by decide +kernel
theorem dX7_init_1 : decode cX7_init 1 = .ok (.invokespecial 1, 3) := by decide +kernel
theorem dX7_init_4 : decode cX7_init 4 = .ok (.aload_n 0, 1) := by decide +kernel
theorem dX7_init_5 : decode cX7_init 5 = .ok (.new 7, 3) := by decide +kernel
theorem dX7_init_8 : decode cX7_init 8 = .ok (.dup, 1) := by decide +kernel
theorem dX7_init_9 : decode cX7_init 9 = .ok (.invokespecial 9, 3) := by decide +kernel
theorem dX7_init_12 : decode cX7_init 12 = .ok (.putfield 10, 3) := by decide +kernel
theorem dX7_init_15 : decode cX7_init 15 = .ok (.aload_n 0, 1) := by decide +kernel
theorem dX7_init_16 : decode cX7_init 16 = .ok (.new 7, 3) := by decide +kernel
theorem dX7_init_19 : decode cX7_init 19 = .ok (.dup, 1) := by decide +kernel
theorem dX7_init_20 : decode cX7_init 20 = .ok (.invokespecial 9, 3) := by decide +kernel
theorem dX7_init_23 : decode cX7_init 23 = .ok (.putfield 16, 3) := by decide +kernel
theorem dX7_init_26 : decode cX7_init 26 = .ok (.aload_n 0, 1) := by decide +kernel
theorem dX7_init_27 : decode cX7_init 27 = .ok (.new 7, 3) := by decide +kernel
theorem dX7_init_30 : decode cX7_init 30 = .ok (.dup, 1) := by decide +kernel
theorem dX7_init_31 : decode cX7_init 31 = .ok (.invokespecial 9, 3) := by decide +kernel
theorem dX7_init_34 : decode cX7_init 34 = .ok (.putfield 19, 3) := by decide +kernel
theorem dX7_init_37 : decode cX7_init 37 = .ok (.aload_n 0, 1) := by decide +kernel
theorem dX7_init_38 : decode cX7_init 38 = .ok (.new 22, 3) := by decide +kernel
theorem dX7_init_41 : decode cX7_init 41 = .ok (.dup, 1) := by decide +kernel
theorem dX7_init_42 : decode cX7_init 42 = .ok (.invokespecial 24, 3) := by decide +kernel
theorem dX7_init_45 : decode cX7_init 45 = .ok (.putfield 25, 3) := by decide +kernel
theorem dX7_init_48 : decode cX7_init 48 = .ok (.aload_n 0, 1) := by decide +kernel
theorem dX7_init_49 : decode cX7_init 49 = .ok (.new 29, 3) := by decide +kernel
theorem dX7_init_52 : decode cX7_init 52 = .ok (.dup, 1) := by decide +kernel
theorem dX7_init_53 : decode cX7_init 53 = .ok (.invokespecial 31, 3) := by decide +kernel
theorem dX7_init_56 : decode cX7_init 56 = .ok (.putfield 32, 3) := by decide +kernel
theorem dX7_init_59 : decode cX7_init 59 = .ok (.aload_n 0, 1) := by decide +kernel
theorem dX7_init_60 : decode cX7_init 60 = .ok (.new 36, 3) := by decide +kernel
theorem dX7_init_63 : decode cX7_init 63 = .ok (.dup, 1) := by decide +kernel
theorem dX7_init_64 : decode cX7_init 64 = .ok (.invokespecial 38, 3) := by decide +kernel
theorem dX7_init_67 : decode cX7_init 67 = .ok (.putfield 39, 3) := by decide +kernel
theorem dX7_init_70 : decode cX7_init 70 = .ok (.aload_n 0, 1) := by decide +kernel
theorem dX7_init_71 : decode cX7_init 71 = .ok (.new 43, 3) := by decide +kernel
theorem dX7_init_74 : decode cX7_init 74 = .ok (.dup, 1) := by decide +kernel
theorem dX7_init_75 : decode cX7_init 75 = .ok (.invokespecial 45, 3) := by decide +kernel
theorem dX7_init_78 : decode cX7_init 78 = .ok (.putfield 46, 3) := by decide +kernel
theorem dX7_init_81 : decode cX7_init 81 = .ok (.aload_n 0, 1) := by decide +kernel
theorem dX7_init_82 : decode cX7_init 82 = .ok (.iconst 0, 1) := by decide +kernel
theorem dX7_init_83 : decode cX7_init 83 = .ok (.putfield 50, 3) := by decide +kernel
theorem dX7_init_86 : decode cX7_init 86 = .ok (.aload_n 0, 1) := by decide +kernel
theorem dX7_init_87 : decode cX7_init 87 = .ok (.iconst (-1), 1) := by decide +kernel
theorem dX7_init_88 : decode cX7_init 88 = .ok (.putfield 54, 3) := by decide +kernel
theorem dX7_init_91 : decode cX7_init 91 = .ok (.aload_n 0, 1) := by decide +kernel
theorem dX7_init_92 : decode cX7_init 92 = .ok (.iconst (-1), 1) := by decide +kernel
theorem dX7_init_93 : decode cX7_init 93 = .ok (.putfield 58, 3) := by decide +kernel
theorem dX7_init_96 : decode cX7_init 96 = .ok (.return_, 1) := by decide +kernel
theorem dX7_addComet_0 : decode cX7_addComet 0 = .ok (.iload_n 1, 1) := by decide +kernel
theorem dX7_addComet_1 : decode cX7_addComet 1 = .ok (.iload_n 2, 1) := by decide +kernel
theorem dX7_addComet_2 : decode cX7_addComet 2 = .ok (.iload_n 3, 1) := by decide +kernel
theorem dX7_addComet_3 : decode cX7_addComet 3 = .ok (.invokestatic 61, 3) := by decide +kernel
theorem dX7_addComet_6 : decode cX7_addComet 6 = .ok (.ifCond .ne 13, 3) := by decide +kernel
theorem dX7_addComet_9 : decode cX7_addComet 9 = .ok (.new 65, 3) := by decide +kernel
theorem dX7_addComet_12 : decode cX7_addComet 12 = .ok (.dup, 1) := by decide +kernel
theorem dX7_addComet_13 : decode cX7_addComet 13 = .ok (.ldc 67, 2) := by decide +kernel
theorem dX7_addComet_15 : decode cX7_addComet 15 = .ok (.invokespecial 69, 3) := by decide +kernel
theorem dX7_addComet_18 : decode cX7_addComet 18 = .ok (.athrow, 1) := by decide +kernel
theorem dX7_addComet_19 : decode cX7_addComet 19 = .ok (.aload_n 0, 1) := by decide +kernel
theorem dX7_addComet_20 : decode cX7_addComet 20 = .ok (.getfield 10, 3) := by decide +kernel
theorem dX7_addComet_23 : decode cX7_addComet 23 = .ok (.invokevirtual 72, 3) := by decide +kernel
theorem dX7_addComet_26 : decode cX7_addComet 26 = .ok (.ifCond .ne 13, 3) := by decide +kernel
theorem dX7_addComet_29 : decode cX7_addComet 29 = .ok (.new 76, 3) := by decide +kernel
theorem dX7_addComet_32 : decode cX7_addComet 32 = .ok (.dup, 1) := by decide +kernel
theorem dX7_addComet_33 : decode cX7_addComet 33 = .ok (.ldc 78, 2) := by decide +kernel
theorem dX7_addComet_35 : decode cX7_addComet 35 = .ok (.invokespecial 80, 3) := by decide +kernel
theorem dX7_addComet_38 : decode cX7_addComet 38 = .ok (.athrow, 1) := by decide +kernel
theorem dX7_addComet_39 : decode cX7_addComet 39 = .ok (.aload_n 0, 1) := by decide +kernel
theorem dX7_addComet_40 : decode cX7_addComet 40 = .ok (.getfield 25, 3) := by decide +kernel
theorem dX7_addComet_43 : decode cX7_addComet 43 = .ok (.aload_n 0, 1) := by decide +kernel
theorem dX7_addComet_44 : decode cX7_addComet 44 = .ok (.getfield 10, 3) := by decide +kernel
theorem dX7_addComet_47 : decode cX7_addComet 47 = .ok (.invokevirtual 81, 3) := by decide +kernel
theorem dX7_addComet_50 : decode cX7_addComet 50 = .ok (.aload_n 0, 1) := by decide +kernel
theorem dX7_addComet_51 : decode cX7_addComet 51 = .ok (.getfield 10, 3) := by decide +kernel
theorem dX7_addComet_54 : decode cX7_addComet 54 = .ok (.iload_n 1, 1) := by decide +kernel
theorem dX7_addComet_55 : decode cX7_addComet 55 = .ok (.iload_n 2, 1) := by decide +kernel
theorem dX7_addComet_56 : decode cX7_addComet 56 = .ok (.iload_n 3, 1) := by decide +kernel
theorem dX7_addComet_57 : decode cX7_addComet 57 = .ok (.invokevirtual 85, 3) := by decide +kernel
theorem dX7_addComet_60 : decode cX7_addComet 60 = .ok (.ireturn, 1) := by decide +kernel
theorem dX7_remove_0 : decode cX7_remove 0 = .ok (.aload_n 0, 1) := by decide +kernel
theorem dX7_remove_1 : decode cX7_remove 1 = .ok (.iload_n 1, 1) := by decide +kernel
theorem dX7_remove_2 : decode cX7_remove 2 = .ok (.invokevirtual 89, 3) := by decide +kernel
theorem dX7_remove_5 : decode cX7_remove 5 = .ok (.astore_n 2, 1) := by decide +kernel
theorem dX7_remove_6 : decode cX7_remove 6 = .ok (.aload_n 0, 1) := by decide +kernel
theorem dX7_remove_7 : decode cX7_remove 7 = .ok (.getfield 25, 3) := by decide +kernel
theorem dX7_remove_10 : decode cX7_remove 10 = .ok (.aload_n 0, 1) := by decide +kernel
theorem dX7_remove_11 : decode cX7_remove 11 = .ok (.getfield 10, 3) := by decide +kernel
theorem dX7_remove_14 : decode cX7_remove 14 = .ok (.invokevirtual 81, 3) := by decide +kernel
theorem dX7_remove_17 : decode cX7_remove 17 = .ok (.aload_n 0, 1) := by decide +kernel
theorem dX7_remove_18 : decode cX7_remove 18 = .ok (.getfield 10, 3) := by decide +kernel
theorem dX7_remove_21 : decode cX7_remove 21 = .ok (.aload_n 2, 1) := by decide +kernel
theorem dX7_remove_22 : decode cX7_remove 22 = .ok (.getfield 93, 3) := by decide +kernel
theorem dX7_remove_25 : decode cX7_remove 25 = .ok (.invokevirtual 98, 3) := by decide +kernel
theorem dX7_remove_28 : decode cX7_remove 28 = .ok (.pop, 1) := by decide +kernel
theorem dX7_remove_29 : decode cX7_remove 29 = .ok (.aload_n 0, 1) := by decide +kernel
theorem dX7_remove_30 : decode cX7_remove 30 = .ok (.getfield 10, 3) := by decide +kernel
theorem dX7_remove_33 : decode cX7_remove 33 = .ok (.getfield 102, 3) := by decide +kernel
theorem dX7_remove_36 : decode cX7_remove 36 = .ok (.ireturn, 1) := by decide +kernel
theorem dX7_setPeriod_0 : decode cX7_setPeriod 0 = .ok (.aload_n 0, 1) := by decide +kernel
theorem dX7_setPeriod_1 : decode cX7_setPeriod 1 = .ok (.iload_n 1, 1) := by decide +kernel
theorem dX7_setPeriod_2 : decode cX7_setPeriod 2 = .ok (.invokevirtual 89, 3) := by decide +kernel
theorem dX7_setPeriod_5 : decode cX7_setPeriod 5 = .ok (.astore_n 3, 1) := by decide +kernel
theorem dX7_setPeriod_6 : decode cX7_setPeriod 6 = .ok (.iload_n 2, 1) := by decide +kernel
theorem dX7_setPeriod_7 : decode cX7_setPeriod 7 = .ok (.invokestatic 105, 3) := by decide +kernel
theorem dX7_setPeriod_10 : decode cX7_setPeriod 10 = .ok (.ifCond .ne 13, 3) := by decide +kernel
theorem dX7_setPeriod_13 : decode cX7_setPeriod 13 = .ok (.new 65, 3) := by decide +kernel
theorem dX7_setPeriod_16 : decode cX7_setPeriod 16 = .ok (.dup, 1) := by decide +kernel
theorem dX7_setPeriod_17 : decode cX7_setPeriod 17 = .ok (.ldc 108, 2) := by decide +kernel
theorem dX7_setPeriod_19 : decode cX7_setPeriod 19 = .ok (.invokespecial 69, 3) := by decide +kernel
theorem dX7_setPeriod_22 : decode cX7_setPeriod 22 = .ok (.athrow, 1) := by decide +kernel
theorem dX7_setPeriod_23 : decode cX7_setPeriod 23 = .ok (.aload_n 0, 1) := by decide +kernel
theorem dX7_setPeriod_24 : decode cX7_setPeriod 24 = .ok (.getfield 25, 3) := by decide +kernel
theorem dX7_setPeriod_27 : decode cX7_setPeriod 27 = .ok (.aload_n 0, 1) := by decide +kernel
theorem dX7_setPeriod_28 : decode cX7_setPeriod 28 = .ok (.getfield 10, 3) := by decide +kernel
theorem dX7_setPeriod_31 : decode cX7_setPeriod 31 = .ok (.invokevirtual 81, 3) := by decide +kernel
theorem dX7_setPeriod_34 : decode cX7_setPeriod 34 = .ok (.aload_n 3, 1) := by decide +kernel
theorem dX7_setPeriod_35 : decode cX7_setPeriod 35 = .ok (.getfield 110, 3) := by decide +kernel
theorem dX7_setPeriod_38 : decode cX7_setPeriod 38 = .ok (.istore 4, 2) := by decide +kernel
theorem dX7_setPeriod_40 : decode cX7_setPeriod 40 = .ok (.aload_n 3, 1) := by decide +kernel
theorem dX7_setPeriod_41 : decode cX7_setPeriod 41 = .ok (.iload_n 2, 1) := by decide +kernel
theorem dX7_setPeriod_42 : decode cX7_setPeriod 42 = .ok (.putfield 110, 3) := by decide +kernel
theorem dX7_setPeriod_45 : decode cX7_setPeriod 45 = .ok (.iload 4, 2) := by decide +kernel
theorem dX7_setPeriod_47 : decode cX7_setPeriod 47 = .ok (.ireturn, 1) := by decide +kernel
theorem dX7_brighten_0 : decode cX7_brighten 0 = .ok (.aload_n 0, 1) := by decide +kernel
theorem dX7_brighten_1 : decode cX7_brighten 1 = .ok (.iload_n 1, 1) := by decide +kernel
theorem dX7_brighten_2 : decode cX7_brighten 2 = .ok (.invokevirtual 89, 3) := by decide +kernel
theorem dX7_brighten_5 : decode cX7_brighten 5 = .ok (.astore_n 3, 1) := by decide +kernel
theorem dX7_brighten_6 : decode cX7_brighten 6 = .ok (.iload_n 2, 1) := by decide +kernel
theorem dX7_brighten_7 : decode cX7_brighten 7 = .ok (.invokestatic 113, 3) := by decide +kernel
theorem dX7_brighten_10 : decode cX7_brighten 10 = .ok (.ifCond .ne 13, 3) := by decide +kernel
theorem dX7_brighten_13 : decode cX7_brighten 13 = .ok (.new 65, 3) := by decide +kernel
theorem dX7_brighten_16 : decode cX7_brighten 16 = .ok (.dup, 1) := by decide +kernel
theorem dX7_brighten_17 : decode cX7_brighten 17 = .ok (.ldc 116, 2) := by decide +kernel
theorem dX7_brighten_19 : decode cX7_brighten 19 = .ok (.invokespecial 69, 3) := by decide +kernel
theorem dX7_brighten_22 : decode cX7_brighten 22 = .ok (.athrow, 1) := by decide +kernel
theorem dX7_brighten_23 : decode cX7_brighten 23 = .ok (.aload_n 3, 1) := by decide +kernel
theorem dX7_brighten_24 : decode cX7_brighten 24 = .ok (.iload_n 2, 1) := by decide +kernel
theorem dX7_brighten_25 : decode cX7_brighten 25 = .ok (.invokevirtual 118, 3) := by decide +kernel
theorem dX7_brighten_28 : decode cX7_brighten 28 = .ok (.ifCond .ne 13, 3) := by decide +kernel
theorem dX7_brighten_31 : decode cX7_brighten 31 = .ok (.new 76, 3) := by decide +kernel
theorem dX7_brighten_34 : decode cX7_brighten 34 = .ok (.dup, 1) := by decide +kernel
theorem dX7_brighten_35 : decode cX7_brighten 35 = .ok (.ldc 121, 2) := by decide +kernel
theorem dX7_brighten_37 : decode cX7_brighten 37 = .ok (.invokespecial 80, 3) := by decide +kernel
theorem dX7_brighten_40 : decode cX7_brighten 40 = .ok (.athrow, 1) := by decide +kernel
theorem dX7_brighten_41 : decode cX7_brighten 41 = .ok (.aload_n 0, 1) := by decide +kernel
theorem dX7_brighten_42 : decode cX7_brighten 42 = .ok (.getfield 10, 3) := by decide +kernel
theorem dX7_brighten_45 : decode cX7_brighten 45 = .ok (.iload_n 2, 1) := by decide +kernel
theorem dX7_brighten_46 : decode cX7_brighten 46 = .ok (.invokevirtual 123, 3) := by decide +kernel
theorem dX7_brighten_49 : decode cX7_brighten 49 = .ok (.ifCond .ne 13, 3) := by decide +kernel
theorem dX7_brighten_52 : decode cX7_brighten 52 = .ok (.new 126, 3) := by decide +kernel
theorem dX7_brighten_55 : decode cX7_brighten 55 = .ok (.dup, 1) := by decide +kernel
theorem dX7_brighten_56 : decode cX7_brighten 56 = .ok (.ldc 128, 2) := by decide +kernel
theorem dX7_brighten_58 : decode cX7_brighten 58 = .ok (.invokespecial 130, 3) := by decide +kernel
theorem dX7_brighten_61 : decode cX7_brighten 61 = .ok (.athrow, 1) := by decide +kernel
theorem dX7_brighten_62 : decode cX7_brighten 62 = .ok (.aload_n 0, 1) := by decide +kernel
theorem dX7_brighten_63 : decode cX7_brighten 63 = .ok (.getfield 25, 3) := by decide +kernel
theorem dX7_brighten_66 : decode cX7_brighten 66 = .ok (.aload_n 0, 1) := by decide +kernel
theorem dX7_brighten_67 : decode cX7_brighten 67 = .ok (.getfield 10, 3) := by decide +kernel
theorem dX7_brighten_70 : decode cX7_brighten 70 = .ok (.invokevirtual 81, 3) := by decide +kernel
theorem dX7_brighten_73 : decode cX7_brighten 73 = .ok (.aload_n 0, 1) := by decide +kernel
theorem dX7_brighten_74 : decode cX7_brighten 74 = .ok (.getfield 10, 3) := by decide +kernel
theorem dX7_brighten_77 : decode cX7_brighten 77 = .ok (.aload_n 3, 1) := by decide +kernel
theorem dX7_brighten_78 : decode cX7_brighten 78 = .ok (.iload_n 2, 1) := by decide +kernel
theorem dX7_brighten_79 : decode cX7_brighten 79 = .ok (.invokevirtual 131, 3) := by decide +kernel
theorem dX7_brighten_82 : decode cX7_brighten 82 = .ok (.aload_n 3, 1) := by decide +kernel
theorem dX7_brighten_83 : decode cX7_brighten 83 = .ok (.getfield 135, 3) := by decide +kernel
theorem dX7_brighten_86 : decode cX7_brighten 86 = .ok (.ireturn, 1) := by decide +kernel
theorem dX7_passDays_0 : decode cX7_passDays 0 = .ok (.iload_n 1, 1) := by decide +kernel
theorem dX7_passDays_1 : decode cX7_passDays 1 = .ok (.invokestatic 138, 3) := by decide +kernel
theorem dX7_passDays_4 : decode cX7_passDays 4 = .ok (.ifCond .ne 13, 3) := by decide +kernel
theorem dX7_passDays_7 : decode cX7_passDays 7 = .ok (.new 65, 3) := by decide +kernel
theorem dX7_passDays_10 : decode cX7_passDays 10 = .ok (.dup, 1) := by decide +kernel
theorem dX7_passDays_11 : decode cX7_passDays 11 = .ok (.ldc 141, 2) := by decide +kernel
theorem dX7_passDays_13 : decode cX7_passDays 13 = .ok (.invokespecial 69, 3) := by decide +kernel
theorem dX7_passDays_16 : decode cX7_passDays 16 = .ok (.athrow, 1) := by decide +kernel
theorem dX7_passDays_17 : decode cX7_passDays 17 = .ok (.aload_n 0, 1) := by decide +kernel
theorem dX7_passDays_18 : decode cX7_passDays 18 = .ok (.getfield 25, 3) := by decide +kernel
theorem dX7_passDays_21 : decode cX7_passDays 21 = .ok (.aload_n 0, 1) := by decide +kernel
theorem dX7_passDays_22 : decode cX7_passDays 22 = .ok (.getfield 10, 3) := by decide +kernel
theorem dX7_passDays_25 : decode cX7_passDays 25 = .ok (.invokevirtual 81, 3) := by decide +kernel
theorem dX7_passDays_28 : decode cX7_passDays 28 = .ok (.aload_n 0, 1) := by decide +kernel
theorem dX7_passDays_29 : decode cX7_passDays 29 = .ok (.getfield 10, 3) := by decide +kernel
theorem dX7_passDays_32 : decode cX7_passDays 32 = .ok (.iload_n 1, 1) := by decide +kernel
theorem dX7_passDays_33 : decode cX7_passDays 33 = .ok (.invokevirtual 143, 3) := by decide +kernel
theorem dX7_passDays_36 : decode cX7_passDays 36 = .ok (.ireturn, 1) := by decide +kernel
theorem dX7_clean_0 : decode cX7_clean 0 = .ok (.iload_n 1, 1) := by decide +kernel
theorem dX7_clean_1 : decode cX7_clean 1 = .ok (.invokestatic 147, 3) := by decide +kernel
theorem dX7_clean_4 : decode cX7_clean 4 = .ok (.ifCond .ne 13, 3) := by decide +kernel
theorem dX7_clean_7 : decode cX7_clean 7 = .ok (.new 150, 3) := by decide +kernel
theorem dX7_clean_10 : decode cX7_clean 10 = .ok (.dup, 1) := by decide +kernel
theorem dX7_clean_11 : decode cX7_clean 11 = .ok (.ldc 152, 2) := by decide +kernel
theorem dX7_clean_13 : decode cX7_clean 13 = .ok (.invokespecial 154, 3) := by decide +kernel
theorem dX7_clean_16 : decode cX7_clean 16 = .ok (.athrow, 1) := by decide +kernel
theorem dX7_clean_17 : decode cX7_clean 17 = .ok (.iload_n 2, 1) := by decide +kernel
theorem dX7_clean_18 : decode cX7_clean 18 = .ok (.invokestatic 155, 3) := by decide +kernel
theorem dX7_clean_21 : decode cX7_clean 21 = .ok (.ifCond .ne 13, 3) := by decide +kernel
theorem dX7_clean_24 : decode cX7_clean 24 = .ok (.new 65, 3) := by decide +kernel
theorem dX7_clean_27 : decode cX7_clean 27 = .ok (.dup, 1) := by decide +kernel
theorem dX7_clean_28 : decode cX7_clean 28 = .ok (.ldc 158, 2) := by decide +kernel
theorem dX7_clean_30 : decode cX7_clean 30 = .ok (.invokespecial 69, 3) := by decide +kernel
theorem dX7_clean_33 : decode cX7_clean 33 = .ok (.athrow, 1) := by decide +kernel
theorem dX7_clean_34 : decode cX7_clean 34 = .ok (.aload_n 0, 1) := by decide +kernel
theorem dX7_clean_35 : decode cX7_clean 35 = .ok (.getfield 10, 3) := by decide +kernel
theorem dX7_clean_38 : decode cX7_clean 38 = .ok (.iload_n 1, 1) := by decide +kernel
theorem dX7_clean_39 : decode cX7_clean 39 = .ok (.iload_n 2, 1) := by decide +kernel
theorem dX7_clean_40 : decode cX7_clean 40 = .ok (.invokevirtual 160, 3) := by decide +kernel
theorem dX7_clean_43 : decode cX7_clean 43 = .ok (.ifCond .ne 13, 3) := by decide +kernel
theorem dX7_clean_46 : decode cX7_clean 46 = .ok (.new 76, 3) := by decide +kernel
theorem dX7_clean_49 : decode cX7_clean 49 = .ok (.dup, 1) := by decide +kernel
theorem dX7_clean_50 : decode cX7_clean 50 = .ok (.ldc 128, 2) := by decide +kernel
theorem dX7_clean_52 : decode cX7_clean 52 = .ok (.invokespecial 80, 3) := by decide +kernel
theorem dX7_clean_55 : decode cX7_clean 55 = .ok (.athrow, 1) := by decide +kernel
theorem dX7_clean_56 : decode cX7_clean 56 = .ok (.aload_n 0, 1) := by decide +kernel
theorem dX7_clean_57 : decode cX7_clean 57 = .ok (.getfield 25, 3) := by decide +kernel
theorem dX7_clean_60 : decode cX7_clean 60 = .ok (.aload_n 0, 1) := by decide +kernel
theorem dX7_clean_61 : decode cX7_clean 61 = .ok (.getfield 10, 3) := by decide +kernel
theorem dX7_clean_64 : decode cX7_clean 64 = .ok (.invokevirtual 81, 3) := by decide +kernel
theorem dX7_clean_67 : decode cX7_clean 67 = .ok (.aload_n 0, 1) := by decide +kernel
theorem dX7_clean_68 : decode cX7_clean 68 = .ok (.getfield 10, 3) := by decide +kernel
theorem dX7_clean_71 : decode cX7_clean 71 = .ok (.iload_n 1, 1) := by decide +kernel
theorem dX7_clean_72 : decode cX7_clean 72 = .ok (.iload_n 2, 1) := by decide +kernel
theorem dX7_clean_73 : decode cX7_clean 73 = .ok (.invokevirtual 164, 3) := by decide +kernel
theorem dX7_clean_76 : decode cX7_clean 76 = .ok (.ireturn, 1) := by decide +kernel
theorem dX7_setRate_0 : decode cX7_setRate 0 = .ok (.iload_n 1, 1) := by decide +kernel
theorem dX7_setRate_1 : decode cX7_setRate 1 = .ok (.invokestatic 168, 3) := by decide +kernel
theorem dX7_setRate_4 : decode cX7_setRate 4 = .ok (.ifCond .ne 13, 3) := by decide +kernel
theorem dX7_setRate_7 : decode cX7_setRate 7 = .ok (.new 65, 3) := by decide +kernel
theorem dX7_setRate_10 : decode cX7_setRate 10 = .ok (.dup, 1) := by decide +kernel
theorem dX7_setRate_11 : decode cX7_setRate 11 = .ok (.ldc 171, 2) := by decide +kernel
theorem dX7_setRate_13 : decode cX7_setRate 13 = .ok (.invokespecial 69, 3) := by decide +kernel
theorem dX7_setRate_16 : decode cX7_setRate 16 = .ok (.athrow, 1) := by decide +kernel
theorem dX7_setRate_17 : decode cX7_setRate 17 = .ok (.aload_n 0, 1) := by decide +kernel
theorem dX7_setRate_18 : decode cX7_setRate 18 = .ok (.getfield 25, 3) := by decide +kernel
theorem dX7_setRate_21 : decode cX7_setRate 21 = .ok (.aload_n 0, 1) := by decide +kernel
theorem dX7_setRate_22 : decode cX7_setRate 22 = .ok (.getfield 10, 3) := by decide +kernel
theorem dX7_setRate_25 : decode cX7_setRate 25 = .ok (.invokevirtual 81, 3) := by decide +kernel
theorem dX7_setRate_28 : decode cX7_setRate 28 = .ok (.aload_n 0, 1) := by decide +kernel
theorem dX7_setRate_29 : decode cX7_setRate 29 = .ok (.getfield 10, 3) := by decide +kernel
theorem dX7_setRate_32 : decode cX7_setRate 32 = .ok (.getfield 173, 3) := by decide +kernel
theorem dX7_setRate_35 : decode cX7_setRate 35 = .ok (.istore_n 2, 1) := by decide +kernel
theorem dX7_setRate_36 : decode cX7_setRate 36 = .ok (.aload_n 0, 1) := by decide +kernel
theorem dX7_setRate_37 : decode cX7_setRate 37 = .ok (.getfield 10, 3) := by decide +kernel
theorem dX7_setRate_40 : decode cX7_setRate 40 = .ok (.iload_n 1, 1) := by decide +kernel
theorem dX7_setRate_41 : decode cX7_setRate 41 = .ok (.putfield 173, 3) := by decide +kernel
theorem dX7_setRate_44 : decode cX7_setRate 44 = .ok (.iload_n 2, 1) := by decide +kernel
theorem dX7_setRate_45 : decode cX7_setRate 45 = .ok (.ireturn, 1) := by decide +kernel
theorem dX7_cometCount_0 : decode cX7_cometCount 0 = .ok (.aload_n 0, 1) := by decide +kernel
theorem dX7_cometCount_1 : decode cX7_cometCount 1 = .ok (.getfield 10, 3) := by decide +kernel
theorem dX7_cometCount_4 : decode cX7_cometCount 4 = .ok (.getfield 176, 3) := by decide +kernel
theorem dX7_cometCount_7 : decode cX7_cometCount 7 = .ok (.ireturn, 1) := by decide +kernel
theorem dX7_cometAt_0 : decode cX7_cometAt 0 = .ok (.iload_n 1, 1) := by decide +kernel
theorem dX7_cometAt_1 : decode cX7_cometAt 1 = .ok (.ifCond .lt 14, 3) := by decide +kernel
theorem dX7_cometAt_4 : decode cX7_cometAt 4 = .ok (.iload_n 1, 1) := by decide +kernel
theorem dX7_cometAt_5 : decode cX7_cometAt 5 = .ok (.aload_n 0, 1) := by decide +kernel
theorem dX7_cometAt_6 : decode cX7_cometAt 6 = .ok (.getfield 10, 3) := by decide +kernel
theorem dX7_cometAt_9 : decode cX7_cometAt 9 = .ok (.getfield 176, 3) := by decide +kernel
theorem dX7_cometAt_12 : decode cX7_cometAt 12 = .ok (.if_icmp .lt 13, 3) := by decide +kernel
theorem dX7_cometAt_15 : decode cX7_cometAt 15 = .ok (.new 150, 3) := by decide +kernel
theorem dX7_cometAt_18 : decode cX7_cometAt 18 = .ok (.dup, 1) := by decide +kernel
theorem dX7_cometAt_19 : decode cX7_cometAt 19 = .ok (.ldc 179, 2) := by decide +kernel
theorem dX7_cometAt_21 : decode cX7_cometAt 21 = .ok (.invokespecial 154, 3) := by decide +kernel
theorem dX7_cometAt_24 : decode cX7_cometAt 24 = .ok (.athrow, 1) := by decide +kernel
theorem dX7_cometAt_25 : decode cX7_cometAt 25 = .ok (.aload_n 0, 1) := by decide +kernel
theorem dX7_cometAt_26 : decode cX7_cometAt 26 = .ok (.getfield 10, 3) := by decide +kernel
theorem dX7_cometAt_29 : decode cX7_cometAt 29 = .ok (.getfield 181, 3) := by decide +kernel
theorem dX7_cometAt_32 : decode cX7_cometAt 32 = .ok (.iload_n 1, 1) := by decide +kernel
theorem dX7_cometAt_33 : decode cX7_cometAt 33 = .ok (.aaload, 1) := by decide +kernel
theorem dX7_cometAt_34 : decode cX7_cometAt 34 = .ok (.getfield 93, 3) := by decide +kernel
theorem dX7_cometAt_37 : decode cX7_cometAt 37 = .ok (.ireturn, 1) := by decide +kernel
theorem dX7_exists_0 : decode cX7_exists 0 = .ok (.aload_n 0, 1) := by decide +kernel
theorem dX7_exists_1 : decode cX7_exists 1 = .ok (.getfield 10, 3) := by decide +kernel
theorem dX7_exists_4 : decode cX7_exists 4 = .ok (.iload_n 1, 1) := by decide +kernel
theorem dX7_exists_5 : decode cX7_exists 5 = .ok (.invokevirtual 185, 3) := by decide +kernel
theorem dX7_exists_8 : decode cX7_exists 8 = .ok (.iconst (-1), 1) := by decide +kernel
theorem dX7_exists_9 : decode cX7_exists 9 = .ok (.if_icmp .eq 7, 3) := by decide +kernel
theorem dX7_exists_12 : decode cX7_exists 12 = .ok (.iconst 1, 1) := by decide +kernel
theorem dX7_exists_13 : decode cX7_exists 13 = .ok (.goto 4, 3) := by decide +kernel
theorem dX7_exists_16 : decode cX7_exists 16 = .ok (.iconst 0, 1) := by decide +kernel
theorem dX7_exists_17 : decode cX7_exists 17 = .ok (.ireturn, 1) := by decide +kernel
theorem dX7_period_0 : decode cX7_period 0 = .ok (.aload_n 0, 1) := by decide +kernel
theorem dX7_period_1 : decode cX7_period 1 = .ok (.iload_n 1, 1) := by decide +kernel
theorem dX7_period_2 : decode cX7_period 2 = .ok (.invokevirtual 89, 3) := by decide +kernel
theorem dX7_period_5 : decode cX7_period 5 = .ok (.getfield 110, 3) := by decide +kernel
theorem dX7_period_8 : decode cX7_period 8 = .ok (.ireturn, 1) := by decide +kernel
theorem dX7_brightness_0 : decode cX7_brightness 0 = .ok (.aload_n 0, 1) := by decide +kernel
theorem dX7_brightness_1 : decode cX7_brightness 1 = .ok (.iload_n 1, 1) := by decide +kernel
theorem dX7_brightness_2 : decode cX7_brightness 2 = .ok (.invokevirtual 89, 3) := by decide +kernel
theorem dX7_brightness_5 : decode cX7_brightness 5 = .ok (.getfield 135, 3) := by decide +kernel
theorem dX7_brightness_8 : decode cX7_brightness 8 = .ok (.ireturn, 1) := by decide +kernel
theorem dX7_tail_0 : decode cX7_tail 0 = .ok (.aload_n 0, 1) := by decide +kernel
theorem dX7_tail_1 : decode cX7_tail 1 = .ok (.iload_n 1, 1) := by decide +kernel
theorem dX7_tail_2 : decode cX7_tail 2 = .ok (.invokevirtual 89, 3) := by decide +kernel
theorem dX7_tail_5 : decode cX7_tail 5 = .ok (.getfield 135, 3) := by decide +kernel
theorem dX7_tail_8 : decode cX7_tail 8 = .ok (.invokestatic 188, 3) := by decide +kernel
theorem dX7_tail_11 : decode cX7_tail 11 = .ok (.ireturn, 1) := by decide +kernel
theorem dX7_nextPass_0 : decode cX7_nextPass 0 = .ok (.aload_n 0, 1) := by decide +kernel
theorem dX7_nextPass_1 : decode cX7_nextPass 1 = .ok (.iload_n 1, 1) := by decide +kernel
theorem dX7_nextPass_2 : decode cX7_nextPass 2 = .ok (.invokevirtual 89, 3) := by decide +kernel
theorem dX7_nextPass_5 : decode cX7_nextPass 5 = .ok (.getfield 191, 3) := by decide +kernel
theorem dX7_nextPass_8 : decode cX7_nextPass 8 = .ok (.ireturn, 1) := by decide +kernel
theorem dX7_passesOf_0 : decode cX7_passesOf 0 = .ok (.aload_n 0, 1) := by decide +kernel
theorem dX7_passesOf_1 : decode cX7_passesOf 1 = .ok (.iload_n 1, 1) := by decide +kernel
theorem dX7_passesOf_2 : decode cX7_passesOf 2 = .ok (.invokevirtual 89, 3) := by decide +kernel
theorem dX7_passesOf_5 : decode cX7_passesOf 5 = .ok (.getfield 194, 3) := by decide +kernel
theorem dX7_passesOf_8 : decode cX7_passesOf 8 = .ok (.ireturn, 1) := by decide +kernel
theorem dX7_lastPass_0 : decode cX7_lastPass 0 = .ok (.aload_n 0, 1) := by decide +kernel
theorem dX7_lastPass_1 : decode cX7_lastPass 1 = .ok (.iload_n 1, 1) := by decide +kernel
theorem dX7_lastPass_2 : decode cX7_lastPass 2 = .ok (.invokevirtual 89, 3) := by decide +kernel
theorem dX7_lastPass_5 : decode cX7_lastPass 5 = .ok (.astore_n 2, 1) := by decide +kernel
theorem dX7_lastPass_6 : decode cX7_lastPass 6 = .ok (.aload_n 2, 1) := by decide +kernel
theorem dX7_lastPass_7 : decode cX7_lastPass 7 = .ok (.getfield 191, 3) := by decide +kernel
theorem dX7_lastPass_10 : decode cX7_lastPass 10 = .ok (.aload_n 2, 1) := by decide +kernel
theorem dX7_lastPass_11 : decode cX7_lastPass 11 = .ok (.getfield 135, 3) := by decide +kernel
theorem dX7_lastPass_14 : decode cX7_lastPass 14 = .ok (.iconst 1, 1) := by decide +kernel
theorem dX7_lastPass_15 : decode cX7_lastPass 15 = .ok (.isub, 1) := by decide +kernel
theorem dX7_lastPass_16 : decode cX7_lastPass 16 = .ok (.aload_n 2, 1) := by decide +kernel
theorem dX7_lastPass_17 : decode cX7_lastPass 17 = .ok (.getfield 110, 3) := by decide +kernel
theorem dX7_lastPass_20 : decode cX7_lastPass 20 = .ok (.imul, 1) := by decide +kernel
theorem dX7_lastPass_21 : decode cX7_lastPass 21 = .ok (.iadd, 1) := by decide +kernel
theorem dX7_lastPass_22 : decode cX7_lastPass 22 = .ok (.ireturn, 1) := by decide +kernel
theorem dX7_cometAtRank_0 : decode cX7_cometAtRank 0 = .ok (.iload_n 1, 1) := by decide +kernel
theorem dX7_cometAtRank_1 : decode cX7_cometAtRank 1 = .ok (.ifCond .lt 14, 3) := by decide +kernel
theorem dX7_cometAtRank_4 : decode cX7_cometAtRank 4 = .ok (.iload_n 1, 1) := by decide +kernel
theorem dX7_cometAtRank_5 : decode cX7_cometAtRank 5 = .ok (.aload_n 0, 1) := by decide +kernel
theorem dX7_cometAtRank_6 : decode cX7_cometAtRank 6 = .ok (.getfield 10, 3) := by decide +kernel
theorem dX7_cometAtRank_9 : decode cX7_cometAtRank 9 = .ok (.getfield 176, 3) := by decide +kernel
theorem dX7_cometAtRank_12 : decode cX7_cometAtRank 12 = .ok (.if_icmp .lt 13, 3) := by decide +kernel
theorem dX7_cometAtRank_15 : decode cX7_cometAtRank 15 = .ok (.new 150, 3) := by decide +kernel
theorem dX7_cometAtRank_18 : decode cX7_cometAtRank 18 = .ok (.dup, 1) := by decide +kernel
theorem dX7_cometAtRank_19 : decode cX7_cometAtRank 19 = .ok (.ldc 197, 2) := by decide +kernel
theorem dX7_cometAtRank_21 : decode cX7_cometAtRank 21 = .ok (.invokespecial 154, 3) := by decide +kernel
theorem dX7_cometAtRank_24 : decode cX7_cometAtRank 24 = .ok (.athrow, 1) := by decide +kernel
theorem dX7_cometAtRank_25 : decode cX7_cometAtRank 25 = .ok (.aload_n 0, 1) := by decide +kernel
theorem dX7_cometAtRank_26 : decode cX7_cometAtRank 26 = .ok (.getfield 10, 3) := by decide +kernel
theorem dX7_cometAtRank_29 : decode cX7_cometAtRank 29 = .ok (.iload_n 1, 1) := by decide +kernel
theorem dX7_cometAtRank_30 : decode cX7_cometAtRank 30 = .ok (.invokevirtual 199, 3) := by decide +kernel
theorem dX7_cometAtRank_33 : decode cX7_cometAtRank 33 = .ok (.ireturn, 1) := by decide +kernel
theorem dX7_passesIn_0 : decode cX7_passesIn 0 = .ok (.iload_n 1, 1) := by decide +kernel
theorem dX7_passesIn_1 : decode cX7_passesIn 1 = .ok (.invokestatic 202, 3) := by decide +kernel
theorem dX7_passesIn_4 : decode cX7_passesIn 4 = .ok (.ifCond .ne 13, 3) := by decide +kernel
theorem dX7_passesIn_7 : decode cX7_passesIn 7 = .ok (.new 65, 3) := by decide +kernel
theorem dX7_passesIn_10 : decode cX7_passesIn 10 = .ok (.dup, 1) := by decide +kernel
theorem dX7_passesIn_11 : decode cX7_passesIn 11 = .ok (.ldc 141, 2) := by decide +kernel
theorem dX7_passesIn_13 : decode cX7_passesIn 13 = .ok (.invokespecial 69, 3) := by decide +kernel
theorem dX7_passesIn_16 : decode cX7_passesIn 16 = .ok (.athrow, 1) := by decide +kernel
theorem dX7_passesIn_17 : decode cX7_passesIn 17 = .ok (.aload_n 0, 1) := by decide +kernel
theorem dX7_passesIn_18 : decode cX7_passesIn 18 = .ok (.getfield 10, 3) := by decide +kernel
theorem dX7_passesIn_21 : decode cX7_passesIn 21 = .ok (.iload_n 1, 1) := by decide +kernel
theorem dX7_passesIn_22 : decode cX7_passesIn 22 = .ok (.invokevirtual 205, 3) := by decide +kernel
theorem dX7_passesIn_25 : decode cX7_passesIn 25 = .ok (.ireturn, 1) := by decide +kernel
theorem dX7_nextMeeting_0 : decode cX7_nextMeeting 0 = .ok (.aload_n 0, 1) := by decide +kernel
theorem dX7_nextMeeting_1 : decode cX7_nextMeeting 1 = .ok (.iload_n 1, 1) := by decide +kernel
theorem dX7_nextMeeting_2 : decode cX7_nextMeeting 2 = .ok (.invokevirtual 89, 3) := by decide +kernel
theorem dX7_nextMeeting_5 : decode cX7_nextMeeting 5 = .ok (.astore_n 3, 1) := by decide +kernel
theorem dX7_nextMeeting_6 : decode cX7_nextMeeting 6 = .ok (.aload_n 0, 1) := by decide +kernel
theorem dX7_nextMeeting_7 : decode cX7_nextMeeting 7 = .ok (.iload_n 2, 1) := by decide +kernel
theorem dX7_nextMeeting_8 : decode cX7_nextMeeting 8 = .ok (.invokevirtual 89, 3) := by decide +kernel
theorem dX7_nextMeeting_11 : decode cX7_nextMeeting 11 = .ok (.astore 4, 2) := by decide +kernel
theorem dX7_nextMeeting_13 : decode cX7_nextMeeting 13 = .ok (.iload_n 1, 1) := by decide +kernel
theorem dX7_nextMeeting_14 : decode cX7_nextMeeting 14 = .ok (.iload_n 2, 1) := by decide +kernel
theorem dX7_nextMeeting_15 : decode cX7_nextMeeting 15 = .ok (.if_icmp .ne 13, 3) := by decide +kernel
theorem dX7_nextMeeting_18 : decode cX7_nextMeeting 18 = .ok (.new 65, 3) := by decide +kernel
theorem dX7_nextMeeting_21 : decode cX7_nextMeeting 21 = .ok (.dup, 1) := by decide +kernel
theorem dX7_nextMeeting_22 : decode cX7_nextMeeting 22 = .ok (.ldc 208, 2) := by decide +kernel
theorem dX7_nextMeeting_24 : decode cX7_nextMeeting 24 = .ok (.invokespecial 69, 3) := by decide +kernel
theorem dX7_nextMeeting_27 : decode cX7_nextMeeting 27 = .ok (.athrow, 1) := by decide +kernel
theorem dX7_nextMeeting_28 : decode cX7_nextMeeting 28 = .ok (.aload_n 3, 1) := by decide +kernel
theorem dX7_nextMeeting_29 : decode cX7_nextMeeting 29 = .ok (.aload 4, 2) := by decide +kernel
theorem dX7_nextMeeting_31 : decode cX7_nextMeeting 31 = .ok (.invokestatic 210, 3) := by decide +kernel
theorem dX7_nextMeeting_34 : decode cX7_nextMeeting 34 = .ok (.istore 5, 2) := by decide +kernel
theorem dX7_nextMeeting_36 : decode cX7_nextMeeting 36 = .ok (.iload 5, 2) := by decide +kernel
theorem dX7_nextMeeting_38 : decode cX7_nextMeeting 38 = .ok (.iconst (-1), 1) := by decide +kernel
theorem dX7_nextMeeting_39 : decode cX7_nextMeeting 39 = .ok (.if_icmp .ne 13, 3) := by decide +kernel
theorem dX7_nextMeeting_42 : decode cX7_nextMeeting 42 = .ok (.new 126, 3) := by decide +kernel
theorem dX7_nextMeeting_45 : decode cX7_nextMeeting 45 = .ok (.dup, 1) := by decide +kernel
theorem dX7_nextMeeting_46 : decode cX7_nextMeeting 46 = .ok (.ldc 216, 2) := by decide +kernel
theorem dX7_nextMeeting_48 : decode cX7_nextMeeting 48 = .ok (.invokespecial 130, 3) := by decide +kernel
theorem dX7_nextMeeting_51 : decode cX7_nextMeeting 51 = .ok (.athrow, 1) := by decide +kernel
theorem dX7_nextMeeting_52 : decode cX7_nextMeeting 52 = .ok (.iload 5, 2) := by decide +kernel
theorem dX7_nextMeeting_54 : decode cX7_nextMeeting 54 = .ok (.ireturn, 1) := by decide +kernel
theorem dX7_nextMeetingByRemainders_0 : decode cX7_nextMeetingByRemainders 0 = .ok (.aload_n 0, 1) := by decide +kernel
theorem dX7_nextMeetingByRemainders_1 : decode cX7_nextMeetingByRemainders 1 = .ok (.iload_n 1, 1) := by decide +kernel
theorem dX7_nextMeetingByRemainders_2 : decode cX7_nextMeetingByRemainders 2 = .ok (.invokevirtual 89, 3) := by decide +kernel
theorem dX7_nextMeetingByRemainders_5 : decode cX7_nextMeetingByRemainders 5 = .ok (.astore_n 3, 1) := by decide +kernel
theorem dX7_nextMeetingByRemainders_6 : decode cX7_nextMeetingByRemainders 6 = .ok (.aload_n 0, 1) := by decide +kernel
theorem dX7_nextMeetingByRemainders_7 : decode cX7_nextMeetingByRemainders 7 = .ok (.iload_n 2, 1) := by decide +kernel
theorem dX7_nextMeetingByRemainders_8 : decode cX7_nextMeetingByRemainders 8 = .ok (.invokevirtual 89, 3) := by decide +kernel
theorem dX7_nextMeetingByRemainders_11 : decode cX7_nextMeetingByRemainders 11 = .ok (.astore 4, 2) := by decide +kernel
theorem dX7_nextMeetingByRemainders_13 : decode cX7_nextMeetingByRemainders 13 = .ok (.iload_n 1, 1) := by decide +kernel
theorem dX7_nextMeetingByRemainders_14 : decode cX7_nextMeetingByRemainders 14 = .ok (.iload_n 2, 1) := by decide +kernel
theorem dX7_nextMeetingByRemainders_15 : decode cX7_nextMeetingByRemainders 15 = .ok (.if_icmp .ne 13, 3) := by decide +kernel
theorem dX7_nextMeetingByRemainders_18 : decode cX7_nextMeetingByRemainders 18 = .ok (.new 65, 3) := by decide +kernel
theorem dX7_nextMeetingByRemainders_21 : decode cX7_nextMeetingByRemainders 21 = .ok (.dup, 1) := by decide +kernel
theorem dX7_nextMeetingByRemainders_22 : decode cX7_nextMeetingByRemainders 22 = .ok (.ldc 208, 2) := by decide +kernel
theorem dX7_nextMeetingByRemainders_24 : decode cX7_nextMeetingByRemainders 24 = .ok (.invokespecial 69, 3) := by decide +kernel
theorem dX7_nextMeetingByRemainders_27 : decode cX7_nextMeetingByRemainders 27 = .ok (.athrow, 1) := by decide +kernel
theorem dX7_nextMeetingByRemainders_28 : decode cX7_nextMeetingByRemainders 28 = .ok (.aload_n 3, 1) := by decide +kernel
theorem dX7_nextMeetingByRemainders_29 : decode cX7_nextMeetingByRemainders 29 = .ok (.aload 4, 2) := by decide +kernel
theorem dX7_nextMeetingByRemainders_31 : decode cX7_nextMeetingByRemainders 31 = .ok (.invokestatic 218, 3) := by decide +kernel
theorem dX7_nextMeetingByRemainders_34 : decode cX7_nextMeetingByRemainders 34 = .ok (.istore 5, 2) := by decide +kernel
theorem dX7_nextMeetingByRemainders_36 : decode cX7_nextMeetingByRemainders 36 = .ok (.iload 5, 2) := by decide +kernel
theorem dX7_nextMeetingByRemainders_38 : decode cX7_nextMeetingByRemainders 38 = .ok (.iconst (-1), 1) := by decide +kernel
theorem dX7_nextMeetingByRemainders_39 : decode cX7_nextMeetingByRemainders 39 = .ok (.if_icmp .ne 13, 3) := by decide +kernel
theorem dX7_nextMeetingByRemainders_42 : decode cX7_nextMeetingByRemainders 42 = .ok (.new 126, 3) := by decide +kernel
theorem dX7_nextMeetingByRemainders_45 : decode cX7_nextMeetingByRemainders 45 = .ok (.dup, 1) := by decide +kernel
theorem dX7_nextMeetingByRemainders_46 : decode cX7_nextMeetingByRemainders 46 = .ok (.ldc 216, 2) := by decide +kernel
theorem dX7_nextMeetingByRemainders_48 : decode cX7_nextMeetingByRemainders 48 = .ok (.invokespecial 130, 3) := by decide +kernel
theorem dX7_nextMeetingByRemainders_51 : decode cX7_nextMeetingByRemainders 51 = .ok (.athrow, 1) := by decide +kernel
theorem dX7_nextMeetingByRemainders_52 : decode cX7_nextMeetingByRemainders 52 = .ok (.iload 5, 2) := by decide +kernel
theorem dX7_nextMeetingByRemainders_54 : decode cX7_nextMeetingByRemainders 54 = .ok (.ireturn, 1) := by decide +kernel
theorem dX7_alignment_0 : decode cX7_alignment 0 = .ok (.aload_n 0, 1) := by decide +kernel
theorem dX7_alignment_1 : decode cX7_alignment 1 = .ok (.getfield 10, 3) := by decide +kernel
theorem dX7_alignment_4 : decode cX7_alignment 4 = .ok (.getfield 176, 3) := by decide +kernel
theorem dX7_alignment_7 : decode cX7_alignment 7 = .ok (.ifCond .ne 13, 3) := by decide +kernel
theorem dX7_alignment_10 : decode cX7_alignment 10 = .ok (.new 221, 3) := by decide +kernel
theorem dX7_alignment_13 : decode cX7_alignment 13 = .ok (.dup, 1) := by decide +kernel
theorem dX7_alignment_14 : decode cX7_alignment 14 = .ok (.ldc 223, 2) := by decide +kernel
theorem dX7_alignment_16 : decode cX7_alignment 16 = .ok (.invokespecial 225, 3) := by decide +kernel
theorem dX7_alignment_19 : decode cX7_alignment 19 = .ok (.athrow, 1) := by decide +kernel
theorem dX7_alignment_20 : decode cX7_alignment 20 = .ok (.lconst 1, 1) := by decide +kernel
theorem dX7_alignment_21 : decode cX7_alignment 21 = .ok (.lstore_n 1, 1) := by decide +kernel
theorem dX7_alignment_22 : decode cX7_alignment 22 = .ok (.iconst 0, 1) := by decide +kernel
theorem dX7_alignment_23 : decode cX7_alignment 23 = .ok (.istore_n 3, 1) := by decide +kernel
theorem dX7_alignment_24 : decode cX7_alignment 24 = .ok (.iload_n 3, 1) := by decide +kernel
theorem dX7_alignment_25 : decode cX7_alignment 25 = .ok (.aload_n 0, 1) := by decide +kernel
theorem dX7_alignment_26 : decode cX7_alignment 26 = .ok (.getfield 10, 3) := by decide +kernel
theorem dX7_alignment_29 : decode cX7_alignment 29 = .ok (.getfield 176, 3) := by decide +kernel
theorem dX7_alignment_32 : decode cX7_alignment 32 = .ok (.if_icmp .ge 27, 3) := by decide +kernel
theorem dX7_alignment_35 : decode cX7_alignment 35 = .ok (.lload_n 1, 1) := by decide +kernel
theorem dX7_alignment_36 : decode cX7_alignment 36 = .ok (.aload_n 0, 1) := by decide +kernel
theorem dX7_alignment_37 : decode cX7_alignment 37 = .ok (.getfield 10, 3) := by decide +kernel
theorem dX7_alignment_40 : decode cX7_alignment 40 = .ok (.getfield 181, 3) := by decide +kernel
theorem dX7_alignment_43 : decode cX7_alignment 43 = .ok (.iload_n 3, 1) := by decide +kernel
theorem dX7_alignment_44 : decode cX7_alignment 44 = .ok (.aaload, 1) := by decide +kernel
theorem dX7_alignment_45 : decode cX7_alignment 45 = .ok (.getfield 110, 3) := by decide +kernel
theorem dX7_alignment_48 : decode cX7_alignment 48 = .ok (.i2l, 1) := by decide +kernel
theorem dX7_alignment_49 : decode cX7_alignment 49 = .ok (.invokestatic 226, 3) := by decide +kernel
theorem dX7_alignment_52 : decode cX7_alignment 52 = .ok (.lstore_n 1, 1) := by decide +kernel
theorem dX7_alignment_53 : decode cX7_alignment 53 = .ok (.iinc 3 1, 3) := by decide +kernel
theorem dX7_alignment_56 : decode cX7_alignment 56 = .ok (.goto (-32), 3) := by decide +kernel
theorem dX7_alignment_59 : decode cX7_alignment 59 = .ok (.lload_n 1, 1) := by decide +kernel
theorem dX7_alignment_60 : decode cX7_alignment 60 = .ok (.lreturn, 1) := by decide +kernel
theorem dX7_bestWorth_0 : decode cX7_bestWorth 0 = .ok (.iload_n 1, 1) := by decide +kernel
theorem dX7_bestWorth_1 : decode cX7_bestWorth 1 = .ok (.invokestatic 202, 3) := by decide +kernel
theorem dX7_bestWorth_4 : decode cX7_bestWorth 4 = .ok (.ifCond .ne 13, 3) := by decide +kernel
theorem dX7_bestWorth_7 : decode cX7_bestWorth 7 = .ok (.new 65, 3) := by decide +kernel
theorem dX7_bestWorth_10 : decode cX7_bestWorth 10 = .ok (.dup, 1) := by decide +kernel
theorem dX7_bestWorth_11 : decode cX7_bestWorth 11 = .ok (.ldc 141, 2) := by decide +kernel
theorem dX7_bestWorth_13 : decode cX7_bestWorth 13 = .ok (.invokespecial 69, 3) := by decide +kernel
theorem dX7_bestWorth_16 : decode cX7_bestWorth 16 = .ok (.athrow, 1) := by decide +kernel
theorem dX7_bestWorth_17 : decode cX7_bestWorth 17 = .ok (.aload_n 0, 1) := by decide +kernel
theorem dX7_bestWorth_18 : decode cX7_bestWorth 18 = .ok (.getfield 32, 3) := by decide +kernel
theorem dX7_bestWorth_21 : decode cX7_bestWorth 21 = .ok (.aload_n 0, 1) := by decide +kernel
theorem dX7_bestWorth_22 : decode cX7_bestWorth 22 = .ok (.getfield 10, 3) := by decide +kernel
theorem dX7_bestWorth_25 : decode cX7_bestWorth 25 = .ok (.iload_n 1, 1) := by decide +kernel
theorem dX7_bestWorth_26 : decode cX7_bestWorth 26 = .ok (.invokevirtual 230, 3) := by decide +kernel
theorem dX7_bestWorth_29 : decode cX7_bestWorth 29 = .ok (.aload_n 0, 1) := by decide +kernel
theorem dX7_bestWorth_30 : decode cX7_bestWorth 30 = .ok (.getfield 32, 3) := by decide +kernel
theorem dX7_bestWorth_33 : decode cX7_bestWorth 33 = .ok (.invokevirtual 234, 3) := by decide +kernel
theorem dX7_bestWorth_36 : decode cX7_bestWorth 36 = .ok (.ireturn, 1) := by decide +kernel
theorem dX7_bestWorthByDays_0 : decode cX7_bestWorthByDays 0 = .ok (.iload_n 1, 1) := by decide +kernel
theorem dX7_bestWorthByDays_1 : decode cX7_bestWorthByDays 1 = .ok (.invokestatic 202, 3) := by decide +kernel
theorem dX7_bestWorthByDays_4 : decode cX7_bestWorthByDays 4 = .ok (.ifCond .ne 13, 3) := by decide +kernel
theorem dX7_bestWorthByDays_7 : decode cX7_bestWorthByDays 7 = .ok (.new 65, 3) := by decide +kernel
theorem dX7_bestWorthByDays_10 : decode cX7_bestWorthByDays 10 = .ok (.dup, 1) := by decide +kernel
theorem dX7_bestWorthByDays_11 : decode cX7_bestWorthByDays 11 = .ok (.ldc 141, 2) := by decide +kernel
theorem dX7_bestWorthByDays_13 : decode cX7_bestWorthByDays 13 = .ok (.invokespecial 69, 3) := by decide +kernel
theorem dX7_bestWorthByDays_16 : decode cX7_bestWorthByDays 16 = .ok (.athrow, 1) := by decide +kernel
theorem dX7_bestWorthByDays_17 : decode cX7_bestWorthByDays 17 = .ok (.aload_n 0, 1) := by decide +kernel
theorem dX7_bestWorthByDays_18 : decode cX7_bestWorthByDays 18 = .ok (.getfield 32, 3) := by decide +kernel
theorem dX7_bestWorthByDays_21 : decode cX7_bestWorthByDays 21 = .ok (.aload_n 0, 1) := by decide +kernel
theorem dX7_bestWorthByDays_22 : decode cX7_bestWorthByDays 22 = .ok (.getfield 10, 3) := by decide +kernel
theorem dX7_bestWorthByDays_25 : decode cX7_bestWorthByDays 25 = .ok (.iload_n 1, 1) := by decide +kernel
theorem dX7_bestWorthByDays_26 : decode cX7_bestWorthByDays 26 = .ok (.invokevirtual 230, 3) := by decide +kernel
theorem dX7_bestWorthByDays_29 : decode cX7_bestWorthByDays 29 = .ok (.aload_n 0, 1) := by decide +kernel
theorem dX7_bestWorthByDays_30 : decode cX7_bestWorthByDays 30 = .ok (.getfield 32, 3) := by decide +kernel
theorem dX7_bestWorthByDays_33 : decode cX7_bestWorthByDays 33 = .ok (.iload_n 1, 1) := by decide +kernel
theorem dX7_bestWorthByDays_34 : decode cX7_bestWorthByDays 34 = .ok (.invokevirtual 238, 3) := by decide +kernel
theorem dX7_bestWorthByDays_37 : decode cX7_bestWorthByDays 37 = .ok (.aload_n 0, 1) := by decide +kernel
theorem dX7_bestWorthByDays_38 : decode cX7_bestWorthByDays 38 = .ok (.getfield 32, 3) := by decide +kernel
theorem dX7_bestWorthByDays_41 : decode cX7_bestWorthByDays 41 = .ok (.getfield 242, 3) := by decide +kernel
theorem dX7_bestWorthByDays_44 : decode cX7_bestWorthByDays 44 = .ok (.iconst 1, 1) := by decide +kernel
theorem dX7_bestWorthByDays_45 : decode cX7_bestWorthByDays 45 = .ok (.iaload, 1) := by decide +kernel
theorem dX7_bestWorthByDays_46 : decode cX7_bestWorthByDays 46 = .ok (.ireturn, 1) := by decide +kernel
theorem dX7_fewestPasses_0 : decode cX7_fewestPasses 0 = .ok (.iload_n 1, 1) := by decide +kernel
theorem dX7_fewestPasses_1 : decode cX7_fewestPasses 1 = .ok (.invokestatic 202, 3) := by decide +kernel
theorem dX7_fewestPasses_4 : decode cX7_fewestPasses 4 = .ok (.ifCond .ne 13, 3) := by decide +kernel
theorem dX7_fewestPasses_7 : decode cX7_fewestPasses 7 = .ok (.new 65, 3) := by decide +kernel
theorem dX7_fewestPasses_10 : decode cX7_fewestPasses 10 = .ok (.dup, 1) := by decide +kernel
theorem dX7_fewestPasses_11 : decode cX7_fewestPasses 11 = .ok (.ldc 141, 2) := by decide +kernel
theorem dX7_fewestPasses_13 : decode cX7_fewestPasses 13 = .ok (.invokespecial 69, 3) := by decide +kernel
theorem dX7_fewestPasses_16 : decode cX7_fewestPasses 16 = .ok (.athrow, 1) := by decide +kernel
theorem dX7_fewestPasses_17 : decode cX7_fewestPasses 17 = .ok (.aload_n 0, 1) := by decide +kernel
theorem dX7_fewestPasses_18 : decode cX7_fewestPasses 18 = .ok (.getfield 32, 3) := by decide +kernel
theorem dX7_fewestPasses_21 : decode cX7_fewestPasses 21 = .ok (.aload_n 0, 1) := by decide +kernel
theorem dX7_fewestPasses_22 : decode cX7_fewestPasses 22 = .ok (.getfield 10, 3) := by decide +kernel
theorem dX7_fewestPasses_25 : decode cX7_fewestPasses 25 = .ok (.iload_n 1, 1) := by decide +kernel
theorem dX7_fewestPasses_26 : decode cX7_fewestPasses 26 = .ok (.invokevirtual 230, 3) := by decide +kernel
theorem dX7_fewestPasses_29 : decode cX7_fewestPasses 29 = .ok (.aload_n 0, 1) := by decide +kernel
theorem dX7_fewestPasses_30 : decode cX7_fewestPasses 30 = .ok (.getfield 32, 3) := by decide +kernel
theorem dX7_fewestPasses_33 : decode cX7_fewestPasses 33 = .ok (.iload_n 1, 1) := by decide +kernel
theorem dX7_fewestPasses_34 : decode cX7_fewestPasses 34 = .ok (.invokevirtual 238, 3) := by decide +kernel
theorem dX7_fewestPasses_37 : decode cX7_fewestPasses 37 = .ok (.aload_n 0, 1) := by decide +kernel
theorem dX7_fewestPasses_38 : decode cX7_fewestPasses 38 = .ok (.getfield 32, 3) := by decide +kernel
theorem dX7_fewestPasses_41 : decode cX7_fewestPasses 41 = .ok (.getfield 246, 3) := by decide +kernel
theorem dX7_fewestPasses_44 : decode cX7_fewestPasses 44 = .ok (.iconst 1, 1) := by decide +kernel
theorem dX7_fewestPasses_45 : decode cX7_fewestPasses 45 = .ok (.iaload, 1) := by decide +kernel
theorem dX7_fewestPasses_46 : decode cX7_fewestPasses 46 = .ok (.ireturn, 1) := by decide +kernel
theorem dX7_dust_0 : decode cX7_dust 0 = .ok (.iload_n 1, 1) := by decide +kernel
theorem dX7_dust_1 : decode cX7_dust 1 = .ok (.invokestatic 147, 3) := by decide +kernel
theorem dX7_dust_4 : decode cX7_dust 4 = .ok (.ifCond .ne 13, 3) := by decide +kernel
theorem dX7_dust_7 : decode cX7_dust 7 = .ok (.new 150, 3) := by decide +kernel
theorem dX7_dust_10 : decode cX7_dust 10 = .ok (.dup, 1) := by decide +kernel
theorem dX7_dust_11 : decode cX7_dust 11 = .ok (.ldc 152, 2) := by decide +kernel
theorem dX7_dust_13 : decode cX7_dust 13 = .ok (.invokespecial 154, 3) := by decide +kernel
theorem dX7_dust_16 : decode cX7_dust 16 = .ok (.athrow, 1) := by decide +kernel
theorem dX7_dust_17 : decode cX7_dust 17 = .ok (.aload_n 0, 1) := by decide +kernel
theorem dX7_dust_18 : decode cX7_dust 18 = .ok (.getfield 10, 3) := by decide +kernel
theorem dX7_dust_21 : decode cX7_dust 21 = .ok (.getfield 249, 3) := by decide +kernel
theorem dX7_dust_24 : decode cX7_dust 24 = .ok (.getfield 253, 3) := by decide +kernel
theorem dX7_dust_27 : decode cX7_dust 27 = .ok (.iload_n 1, 1) := by decide +kernel
theorem dX7_dust_28 : decode cX7_dust 28 = .ok (.iaload, 1) := by decide +kernel
theorem dX7_dust_29 : decode cX7_dust 29 = .ok (.ireturn, 1) := by decide +kernel
theorem dX7_gain_0 : decode cX7_gain 0 = .ok (.iload_n 1, 1) := by decide +kernel
theorem dX7_gain_1 : decode cX7_gain 1 = .ok (.invokestatic 147, 3) := by decide +kernel
theorem dX7_gain_4 : decode cX7_gain 4 = .ok (.ifCond .ne 13, 3) := by decide +kernel
theorem dX7_gain_7 : decode cX7_gain 7 = .ok (.new 150, 3) := by decide +kernel
theorem dX7_gain_10 : decode cX7_gain 10 = .ok (.dup, 1) := by decide +kernel
theorem dX7_gain_11 : decode cX7_gain 11 = .ok (.ldc 152, 2) := by decide +kernel
theorem dX7_gain_13 : decode cX7_gain 13 = .ok (.invokespecial 154, 3) := by decide +kernel
theorem dX7_gain_16 : decode cX7_gain 16 = .ok (.athrow, 1) := by decide +kernel
theorem dX7_gain_17 : decode cX7_gain 17 = .ok (.iload_n 2, 1) := by decide +kernel
theorem dX7_gain_18 : decode cX7_gain 18 = .ok (.invokestatic 155, 3) := by decide +kernel
theorem dX7_gain_21 : decode cX7_gain 21 = .ok (.ifCond .ne 13, 3) := by decide +kernel
theorem dX7_gain_24 : decode cX7_gain 24 = .ok (.new 65, 3) := by decide +kernel
theorem dX7_gain_27 : decode cX7_gain 27 = .ok (.dup, 1) := by decide +kernel
theorem dX7_gain_28 : decode cX7_gain 28 = .ok (.ldc 158, 2) := by decide +kernel
theorem dX7_gain_30 : decode cX7_gain 30 = .ok (.invokespecial 69, 3) := by decide +kernel
theorem dX7_gain_33 : decode cX7_gain 33 = .ok (.athrow, 1) := by decide +kernel
theorem dX7_gain_34 : decode cX7_gain 34 = .ok (.aload_n 0, 1) := by decide +kernel
theorem dX7_gain_35 : decode cX7_gain 35 = .ok (.getfield 10, 3) := by decide +kernel
theorem dX7_gain_38 : decode cX7_gain 38 = .ok (.getfield 249, 3) := by decide +kernel
theorem dX7_gain_41 : decode cX7_gain 41 = .ok (.iload_n 1, 1) := by decide +kernel
theorem dX7_gain_42 : decode cX7_gain 42 = .ok (.iload_n 2, 1) := by decide +kernel
theorem dX7_gain_43 : decode cX7_gain 43 = .ok (.aload_n 0, 1) := by decide +kernel
theorem dX7_gain_44 : decode cX7_gain 44 = .ok (.getfield 10, 3) := by decide +kernel
theorem dX7_gain_47 : decode cX7_gain 47 = .ok (.getfield 173, 3) := by decide +kernel
theorem dX7_gain_50 : decode cX7_gain 50 = .ok (.invokevirtual 258, 3) := by decide +kernel
theorem dX7_gain_53 : decode cX7_gain 53 = .ok (.ireturn, 1) := by decide +kernel
theorem dX7_bestGain_0 : decode cX7_bestGain 0 = .ok (.aload_n 0, 1) := by decide +kernel
theorem dX7_bestGain_1 : decode cX7_bestGain 1 = .ok (.getfield 10, 3) := by decide +kernel
theorem dX7_bestGain_4 : decode cX7_bestGain 4 = .ok (.getfield 249, 3) := by decide +kernel
theorem dX7_bestGain_7 : decode cX7_bestGain 7 = .ok (.aload_n 0, 1) := by decide +kernel
theorem dX7_bestGain_8 : decode cX7_bestGain 8 = .ok (.getfield 10, 3) := by decide +kernel
theorem dX7_bestGain_11 : decode cX7_bestGain 11 = .ok (.getfield 173, 3) := by decide +kernel
theorem dX7_bestGain_14 : decode cX7_bestGain 14 = .ok (.invokevirtual 261, 3) := by decide +kernel
theorem dX7_bestGain_17 : decode cX7_bestGain 17 = .ok (.ireturn, 1) := by decide +kernel
theorem dX7_bestGainByArcs_0 : decode cX7_bestGainByArcs 0 = .ok (.aload_n 0, 1) := by decide +kernel
theorem dX7_bestGainByArcs_1 : decode cX7_bestGainByArcs 1 = .ok (.getfield 10, 3) := by decide +kernel
theorem dX7_bestGainByArcs_4 : decode cX7_bestGainByArcs 4 = .ok (.getfield 249, 3) := by decide +kernel
theorem dX7_bestGainByArcs_7 : decode cX7_bestGainByArcs 7 = .ok (.aload_n 0, 1) := by decide +kernel
theorem dX7_bestGainByArcs_8 : decode cX7_bestGainByArcs 8 = .ok (.getfield 10, 3) := by decide +kernel
theorem dX7_bestGainByArcs_11 : decode cX7_bestGainByArcs 11 = .ok (.getfield 173, 3) := by decide +kernel
theorem dX7_bestGainByArcs_14 : decode cX7_bestGainByArcs 14 = .ok (.invokevirtual 264, 3) := by decide +kernel
theorem dX7_bestGainByArcs_17 : decode cX7_bestGainByArcs 17 = .ok (.aload_n 0, 1) := by decide +kernel
theorem dX7_bestGainByArcs_18 : decode cX7_bestGainByArcs 18 = .ok (.getfield 10, 3) := by decide +kernel
theorem dX7_bestGainByArcs_21 : decode cX7_bestGainByArcs 21 = .ok (.getfield 249, 3) := by decide +kernel
theorem dX7_bestGainByArcs_24 : decode cX7_bestGainByArcs 24 = .ok (.getfield 267, 3) := by decide +kernel
theorem dX7_bestGainByArcs_27 : decode cX7_bestGainByArcs 27 = .ok (.ireturn, 1) := by decide +kernel
theorem dX7_bestStart_0 : decode cX7_bestStart 0 = .ok (.aload_n 0, 1) := by decide +kernel
theorem dX7_bestStart_1 : decode cX7_bestStart 1 = .ok (.getfield 10, 3) := by decide +kernel
theorem dX7_bestStart_4 : decode cX7_bestStart 4 = .ok (.getfield 249, 3) := by decide +kernel
theorem dX7_bestStart_7 : decode cX7_bestStart 7 = .ok (.aload_n 0, 1) := by decide +kernel
theorem dX7_bestStart_8 : decode cX7_bestStart 8 = .ok (.getfield 10, 3) := by decide +kernel
theorem dX7_bestStart_11 : decode cX7_bestStart 11 = .ok (.getfield 173, 3) := by decide +kernel
theorem dX7_bestStart_14 : decode cX7_bestStart 14 = .ok (.invokevirtual 264, 3) := by decide +kernel
theorem dX7_bestStart_17 : decode cX7_bestStart 17 = .ok (.aload_n 0, 1) := by decide +kernel
theorem dX7_bestStart_18 : decode cX7_bestStart 18 = .ok (.getfield 10, 3) := by decide +kernel
theorem dX7_bestStart_21 : decode cX7_bestStart 21 = .ok (.getfield 249, 3) := by decide +kernel
theorem dX7_bestStart_24 : decode cX7_bestStart 24 = .ok (.getfield 270, 3) := by decide +kernel
theorem dX7_bestStart_27 : decode cX7_bestStart 27 = .ok (.ireturn, 1) := by decide +kernel
theorem dX7_bestPlaces_0 : decode cX7_bestPlaces 0 = .ok (.aload_n 0, 1) := by decide +kernel
theorem dX7_bestPlaces_1 : decode cX7_bestPlaces 1 = .ok (.getfield 10, 3) := by decide +kernel
theorem dX7_bestPlaces_4 : decode cX7_bestPlaces 4 = .ok (.getfield 249, 3) := by decide +kernel
theorem dX7_bestPlaces_7 : decode cX7_bestPlaces 7 = .ok (.aload_n 0, 1) := by decide +kernel
theorem dX7_bestPlaces_8 : decode cX7_bestPlaces 8 = .ok (.getfield 10, 3) := by decide +kernel
theorem dX7_bestPlaces_11 : decode cX7_bestPlaces 11 = .ok (.getfield 173, 3) := by decide +kernel
theorem dX7_bestPlaces_14 : decode cX7_bestPlaces 14 = .ok (.invokevirtual 264, 3) := by decide +kernel
theorem dX7_bestPlaces_17 : decode cX7_bestPlaces 17 = .ok (.aload_n 0, 1) := by decide +kernel
theorem dX7_bestPlaces_18 : decode cX7_bestPlaces 18 = .ok (.getfield 10, 3) := by decide +kernel
theorem dX7_bestPlaces_21 : decode cX7_bestPlaces 21 = .ok (.getfield 249, 3) := by decide +kernel
theorem dX7_bestPlaces_24 : decode cX7_bestPlaces 24 = .ok (.getfield 273, 3) := by decide +kernel
theorem dX7_bestPlaces_27 : decode cX7_bestPlaces 27 = .ok (.ireturn, 1) := by decide +kernel
theorem dX7_day_0 : decode cX7_day 0 = .ok (.aload_n 0, 1) := by decide +kernel
theorem dX7_day_1 : decode cX7_day 1 = .ok (.getfield 10, 3) := by decide +kernel
theorem dX7_day_4 : decode cX7_day 4 = .ok (.getfield 276, 3) := by decide +kernel
theorem dX7_day_7 : decode cX7_day 7 = .ok (.ireturn, 1) := by decide +kernel
theorem dX7_coins_0 : decode cX7_coins 0 = .ok (.aload_n 0, 1) := by decide +kernel
theorem dX7_coins_1 : decode cX7_coins 1 = .ok (.getfield 10, 3) := by decide +kernel
theorem dX7_coins_4 : decode cX7_coins 4 = .ok (.getfield 102, 3) := by decide +kernel
theorem dX7_coins_7 : decode cX7_coins 7 = .ok (.ireturn, 1) := by decide +kernel
theorem dX7_rate_0 : decode cX7_rate 0 = .ok (.aload_n 0, 1) := by decide +kernel
theorem dX7_rate_1 : decode cX7_rate 1 = .ok (.getfield 10, 3) := by decide +kernel
theorem dX7_rate_4 : decode cX7_rate 4 = .ok (.getfield 173, 3) := by decide +kernel
theorem dX7_rate_7 : decode cX7_rate 7 = .ok (.ireturn, 1) := by decide +kernel
theorem dX7_dustTotal_0 : decode cX7_dustTotal 0 = .ok (.aload_n 0, 1) := by decide +kernel
theorem dX7_dustTotal_1 : decode cX7_dustTotal 1 = .ok (.getfield 10, 3) := by decide +kernel
theorem dX7_dustTotal_4 : decode cX7_dustTotal 4 = .ok (.getfield 249, 3) := by decide +kernel
theorem dX7_dustTotal_7 : decode cX7_dustTotal 7 = .ok (.iconst 0, 1) := by decide +kernel
theorem dX7_dustTotal_8 : decode cX7_dustTotal 8 = .ok (.bipush 12, 2) := by decide +kernel
theorem dX7_dustTotal_10 : decode cX7_dustTotal 10 = .ok (.invokevirtual 279, 3) := by decide +kernel
theorem dX7_dustTotal_13 : decode cX7_dustTotal 13 = .ok (.ireturn, 1) := by decide +kernel
theorem dX7_dustByAccounts_0 : decode cX7_dustByAccounts 0 = .ok (.aload_n 0, 1) := by decide +kernel
theorem dX7_dustByAccounts_1 : decode cX7_dustByAccounts 1 = .ok (.getfield 10, 3) := by decide +kernel
