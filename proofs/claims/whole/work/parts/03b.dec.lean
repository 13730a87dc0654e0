theorem d_D_init_0 : decode b_D_init 0 = .ok (.aload_n 0, 1) := by decide +kernel
theorem d_D_init_1 : decode b_D_init 1 = .ok (.invokespecial 3, 3) := by decide +kernel
theorem d_D_init_4 : decode b_D_init 4 = .ok (.aload_n 0, 1) := by decide +kernel
theorem d_D_init_5 : decode b_D_init 5 = .ok (.bipush 32, 2) := by decide +kernel
theorem d_D_init_7 : decode b_D_init 7 = .ok (.newarray .int, 2) := by decide +kernel
theorem d_D_init_9 : decode b_D_init 9 = .ok (.putfield 9, 3) := by decide +kernel
theorem d_D_init_12 : decode b_D_init 12 = .ok (.aload_n 0, 1) := by decide +kernel
theorem d_D_init_13 : decode b_D_init 13 = .ok (.aload_n 1, 1) := by decide +kernel
theorem d_D_init_14 : decode b_D_init 14 = .ok (.putfield 15, 3) := by decide +kernel
theorem d_D_init_17 : decode b_D_init 17 = .ok (.iconst 0, 1) := by decide +kernel
theorem d_D_init_18 : decode b_D_init 18 = .ok (.istore_n 2, 1) := by decide +kernel
theorem d_D_init_19 : decode b_D_init 19 = .ok (.iload_n 2, 1) := by decide +kernel
theorem d_D_init_20 : decode b_D_init 20 = .ok (.bipush 32, 2) := by decide +kernel
theorem d_D_init_22 : decode b_D_init 22 = .ok (.if_icmp .ge 16, 3) := by decide +kernel
theorem d_D_init_25 : decode b_D_init 25 = .ok (.aload_n 0, 1) := by decide +kernel
theorem d_D_init_26 : decode b_D_init 26 = .ok (.getfield 9, 3) := by decide +kernel
theorem d_D_init_29 : decode b_D_init 29 = .ok (.iload_n 2, 1) := by decide +kernel
theorem d_D_init_30 : decode b_D_init 30 = .ok (.iconst (-1), 1) := by decide +kernel
theorem d_D_init_31 : decode b_D_init 31 = .ok (.iastore, 1) := by decide +kernel
theorem d_D_init_32 : decode b_D_init 32 = .ok (.iinc 2 1, 3) := by decide +kernel
theorem d_D_init_35 : decode b_D_init 35 = .ok (.goto (-16), 3) := by decide +kernel
theorem d_D_init_38 : decode b_D_init 38 = .ok (.return_, 1) := by decide +kernel
theorem d_D_size_0 : decode b_D_size 0 = .ok (.iconst 0, 1) := by decide +kernel
theorem d_D_size_1 : decode b_D_size 1 = .ok (.istore_n 2, 1) := by decide +kernel
theorem d_D_size_2 : decode b_D_size 2 = .ok (.iconst 0, 1) := by decide +kernel
theorem d_D_size_3 : decode b_D_size 3 = .ok (.istore_n 3, 1) := by decide +kernel
theorem d_D_size_4 : decode b_D_size 4 = .ok (.iload_n 3, 1) := by decide +kernel
theorem d_D_size_5 : decode b_D_size 5 = .ok (.bipush 32, 2) := by decide +kernel
theorem d_D_size_7 : decode b_D_size 7 = .ok (.if_icmp .ge 22, 3) := by decide +kernel
theorem d_D_size_10 : decode b_D_size 10 = .ok (.aload_n 0, 1) := by decide +kernel
theorem d_D_size_11 : decode b_D_size 11 = .ok (.getfield 9, 3) := by decide +kernel
theorem d_D_size_14 : decode b_D_size 14 = .ok (.iload_n 3, 1) := by decide +kernel
theorem d_D_size_15 : decode b_D_size 15 = .ok (.iaload, 1) := by decide +kernel
theorem d_D_size_16 : decode b_D_size 16 = .ok (.iload_n 1, 1) := by decide +kernel
theorem d_D_size_17 : decode b_D_size 17 = .ok (.if_icmp .ne 6, 3) := by decide +kernel
theorem d_D_size_20 : decode b_D_size 20 = .ok (.iinc 2 1, 3) := by decide +kernel
theorem d_D_size_23 : decode b_D_size 23 = .ok (.iinc 3 1, 3) := by decide +kernel
theorem d_D_size_26 : decode b_D_size 26 = .ok (.goto (-22), 3) := by decide +kernel
theorem d_D_size_29 : decode b_D_size 29 = .ok (.iload_n 2, 1) := by decide +kernel
theorem d_D_size_30 : decode b_D_size 30 = .ok (.ireturn, 1) := by decide +kernel
theorem d_D_isAllocated_0 : decode b_D_isAllocated 0 = .ok (.aload_n 0, 1) := by decide +kernel
theorem d_D_isAllocated_1 : decode b_D_isAllocated 1 = .ok (.iload_n 1, 1) := by decide +kernel
theorem d_D_isAllocated_2 : decode b_D_isAllocated 2 = .ok (.invokevirtual 19, 3) := by decide +kernel
theorem d_D_isAllocated_5 : decode b_D_isAllocated 5 = .ok (.ifCond .le 7, 3) := by decide +kernel
theorem d_D_isAllocated_8 : decode b_D_isAllocated 8 = .ok (.iconst 1, 1) := by decide +kernel
theorem d_D_isAllocated_9 : decode b_D_isAllocated 9 = .ok (.goto 4, 3) := by decide +kernel
theorem d_D_isAllocated_12 : decode b_D_isAllocated 12 = .ok (.iconst 0, 1) := by decide +kernel
theorem d_D_isAllocated_13 : decode b_D_isAllocated 13 = .ok (.ireturn, 1) := by decide +kernel
theorem d_D_trackAt_0 : decode b_D_trackAt 0 = .ok (.iconst 0, 1) := by decide +kernel
theorem d_D_trackAt_1 : decode b_D_trackAt 1 = .ok (.istore_n 3, 1) := by decide +kernel
theorem d_D_trackAt_2 : decode b_D_trackAt 2 = .ok (.iconst 0, 1) := by decide +kernel
theorem d_D_trackAt_3 : decode b_D_trackAt 3 = .ok (.istore 4, 2) := by decide +kernel
theorem d_D_trackAt_5 : decode b_D_trackAt 5 = .ok (.iload 4, 2) := by decide +kernel
theorem d_D_trackAt_7 : decode b_D_trackAt 7 = .ok (.bipush 32, 2) := by decide +kernel
theorem d_D_trackAt_9 : decode b_D_trackAt 9 = .ok (.if_icmp .ge 31, 3) := by decide +kernel
theorem d_D_trackAt_12 : decode b_D_trackAt 12 = .ok (.aload_n 0, 1) := by decide +kernel
theorem d_D_trackAt_13 : decode b_D_trackAt 13 = .ok (.getfield 9, 3) := by decide +kernel
theorem d_D_trackAt_16 : decode b_D_trackAt 16 = .ok (.iload 4, 2) := by decide +kernel
theorem d_D_trackAt_18 : decode b_D_trackAt 18 = .ok (.iaload, 1) := by decide +kernel
theorem d_D_trackAt_19 : decode b_D_trackAt 19 = .ok (.iload_n 1, 1) := by decide +kernel
theorem d_D_trackAt_20 : decode b_D_trackAt 20 = .ok (.if_icmp .ne 14, 3) := by decide +kernel
theorem d_D_trackAt_23 : decode b_D_trackAt 23 = .ok (.iload_n 3, 1) := by decide +kernel
theorem d_D_trackAt_24 : decode b_D_trackAt 24 = .ok (.iload_n 2, 1) := by decide +kernel
theorem d_D_trackAt_25 : decode b_D_trackAt 25 = .ok (.if_icmp .ne 6, 3) := by decide +kernel
theorem d_D_trackAt_28 : decode b_D_trackAt 28 = .ok (.iload 4, 2) := by decide +kernel
theorem d_D_trackAt_30 : decode b_D_trackAt 30 = .ok (.ireturn, 1) := by decide +kernel
theorem d_D_trackAt_31 : decode b_D_trackAt 31 = .ok (.iinc 3 1, 3) := by decide +kernel
theorem d_D_trackAt_34 : decode b_D_trackAt 34 = .ok (.iinc 4 1, 3) := by decide +kernel
theorem d_D_trackAt_37 : decode b_D_trackAt 37 = .ok (.goto (-32), 3) := by decide +kernel
theorem d_D_trackAt_40 : decode b_D_trackAt 40 = .ok (.iconst (-1), 1) := by decide +kernel
theorem d_D_trackAt_41 : decode b_D_trackAt 41 = .ok (.ireturn, 1) := by decide +kernel
theorem d_D_canTake_0 : decode b_D_canTake 0 = .ok (.aload_n 0, 1) := by decide +kernel
theorem d_D_canTake_1 : decode b_D_canTake 1 = .ok (.iconst (-1), 1) := by decide +kernel
theorem d_D_canTake_2 : decode b_D_canTake 2 = .ok (.invokevirtual 19, 3) := by decide +kernel
theorem d_D_canTake_5 : decode b_D_canTake 5 = .ok (.iload_n 1, 1) := by decide +kernel
theorem d_D_canTake_6 : decode b_D_canTake 6 = .ok (.if_icmp .lt 16, 3) := by decide +kernel
theorem d_D_canTake_9 : decode b_D_canTake 9 = .ok (.aload_n 0, 1) := by decide +kernel
theorem d_D_canTake_10 : decode b_D_canTake 10 = .ok (.iload_n 1, 1) := by decide +kernel
theorem d_D_canTake_11 : decode b_D_canTake 11 = .ok (.invokevirtual 23, 3) := by decide +kernel
theorem d_D_canTake_14 : decode b_D_canTake 14 = .ok (.iconst 4, 1) := by decide +kernel
theorem d_D_canTake_15 : decode b_D_canTake 15 = .ok (.if_icmp .gt 7, 3) := by decide +kernel
theorem d_D_canTake_18 : decode b_D_canTake 18 = .ok (.iconst 1, 1) := by decide +kernel
theorem d_D_canTake_19 : decode b_D_canTake 19 = .ok (.goto 4, 3) := by decide +kernel
theorem d_D_canTake_22 : decode b_D_canTake 22 = .ok (.iconst 0, 1) := by decide +kernel
theorem d_D_canTake_23 : decode b_D_canTake 23 = .ok (.ireturn, 1) := by decide +kernel
theorem d_D_take_0 : decode b_D_take 0 = .ok (.aload_n 0, 1) := by decide +kernel
theorem d_D_take_1 : decode b_D_take 1 = .ok (.iload_n 2, 1) := by decide +kernel
theorem d_D_take_2 : decode b_D_take 2 = .ok (.invokevirtual 23, 3) := by decide +kernel
theorem d_D_take_5 : decode b_D_take 5 = .ok (.istore_n 3, 1) := by decide +kernel
theorem d_D_take_6 : decode b_D_take 6 = .ok (.iconst 0, 1) := by decide +kernel
theorem d_D_take_7 : decode b_D_take 7 = .ok (.istore 4, 2) := by decide +kernel
theorem d_D_take_9 : decode b_D_take 9 = .ok (.iconst 0, 1) := by decide +kernel
theorem d_D_take_10 : decode b_D_take 10 = .ok (.istore 5, 2) := by decide +kernel
theorem d_D_take_12 : decode b_D_take 12 = .ok (.iload 5, 2) := by decide +kernel
theorem d_D_take_14 : decode b_D_take 14 = .ok (.bipush 32, 2) := by decide +kernel
theorem d_D_take_16 : decode b_D_take 16 = .ok (.if_icmp .ge 48, 3) := by decide +kernel
theorem d_D_take_19 : decode b_D_take 19 = .ok (.iload 4, 2) := by decide +kernel
theorem d_D_take_21 : decode b_D_take 21 = .ok (.iload_n 2, 1) := by decide +kernel
theorem d_D_take_22 : decode b_D_take 22 = .ok (.if_icmp .ge 42, 3) := by decide +kernel
theorem d_D_take_25 : decode b_D_take 25 = .ok (.aload_n 0, 1) := by decide +kernel
theorem d_D_take_26 : decode b_D_take 26 = .ok (.getfield 9, 3) := by decide +kernel
theorem d_D_take_29 : decode b_D_take 29 = .ok (.iload 5, 2) := by decide +kernel
theorem d_D_take_31 : decode b_D_take 31 = .ok (.iaload, 1) := by decide +kernel
theorem d_D_take_32 : decode b_D_take 32 = .ok (.iconst (-1), 1) := by decide +kernel
theorem d_D_take_33 : decode b_D_take 33 = .ok (.if_icmp .ne 25, 3) := by decide +kernel
theorem d_D_take_36 : decode b_D_take 36 = .ok (.aload_n 0, 1) := by decide +kernel
theorem d_D_take_37 : decode b_D_take 37 = .ok (.getfield 9, 3) := by decide +kernel
theorem d_D_take_40 : decode b_D_take 40 = .ok (.iload 5, 2) := by decide +kernel
theorem d_D_take_42 : decode b_D_take 42 = .ok (.iload_n 1, 1) := by decide +kernel
theorem d_D_take_43 : decode b_D_take 43 = .ok (.iastore, 1) := by decide +kernel
theorem d_D_take_44 : decode b_D_take 44 = .ok (.aload_n 0, 1) := by decide +kernel
theorem d_D_take_45 : decode b_D_take 45 = .ok (.getfield 15, 3) := by decide +kernel
theorem d_D_take_48 : decode b_D_take 48 = .ok (.iload 5, 2) := by decide +kernel
theorem d_D_take_50 : decode b_D_take 50 = .ok (.aaload, 1) := by decide +kernel
theorem d_D_take_51 : decode b_D_take 51 = .ok (.iconst 0, 1) := by decide +kernel
theorem d_D_take_52 : decode b_D_take 52 = .ok (.invokevirtual 26, 3) := by decide +kernel
theorem d_D_take_55 : decode b_D_take 55 = .ok (.iinc 4 1, 3) := by decide +kernel
theorem d_D_take_58 : decode b_D_take 58 = .ok (.iinc 5 1, 3) := by decide +kernel
theorem d_D_take_61 : decode b_D_take 61 = .ok (.goto (-49), 3) := by decide +kernel
theorem d_D_take_64 : decode b_D_take 64 = .ok (.iload_n 3, 1) := by decide +kernel
theorem d_D_take_65 : decode b_D_take 65 = .ok (.ireturn, 1) := by decide +kernel
theorem d_D_giveBack_0 : decode b_D_giveBack 0 = .ok (.iconst 0, 1) := by decide +kernel
theorem d_D_giveBack_1 : decode b_D_giveBack 1 = .ok (.istore_n 2, 1) := by decide +kernel
theorem d_D_giveBack_2 : decode b_D_giveBack 2 = .ok (.iload_n 2, 1) := by decide +kernel
theorem d_D_giveBack_3 : decode b_D_giveBack 3 = .ok (.bipush 32, 2) := by decide +kernel
theorem d_D_giveBack_5 : decode b_D_giveBack 5 = .ok (.if_icmp .ge 26, 3) := by decide +kernel
theorem d_D_giveBack_8 : decode b_D_giveBack 8 = .ok (.aload_n 0, 1) := by decide +kernel
theorem d_D_giveBack_9 : decode b_D_giveBack 9 = .ok (.getfield 9, 3) := by decide +kernel
theorem d_D_giveBack_12 : decode b_D_giveBack 12 = .ok (.iload_n 2, 1) := by decide +kernel
theorem d_D_giveBack_13 : decode b_D_giveBack 13 = .ok (.iaload, 1) := by decide +kernel
theorem d_D_giveBack_14 : decode b_D_giveBack 14 = .ok (.iload_n 1, 1) := by decide +kernel
theorem d_D_giveBack_15 : decode b_D_giveBack 15 = .ok (.if_icmp .ne 10, 3) := by decide +kernel
theorem d_D_giveBack_18 : decode b_D_giveBack 18 = .ok (.aload_n 0, 1) := by decide +kernel
theorem d_D_giveBack_19 : decode b_D_giveBack 19 = .ok (.getfield 9, 3) := by decide +kernel
theorem d_D_giveBack_22 : decode b_D_giveBack 22 = .ok (.iload_n 2, 1) := by decide +kernel
theorem d_D_giveBack_23 : decode b_D_giveBack 23 = .ok (.iconst (-1), 1) := by decide +kernel
theorem d_D_giveBack_24 : decode b_D_giveBack 24 = .ok (.iastore, 1) := by decide +kernel
theorem d_D_giveBack_25 : decode b_D_giveBack 25 = .ok (.iinc 2 1, 3) := by decide +kernel
theorem d_D_giveBack_28 : decode b_D_giveBack 28 = .ok (.goto (-26), 3) := by decide +kernel
theorem d_D_giveBack_31 : decode b_D_giveBack 31 = .ok (.return_, 1) := by decide +kernel
theorem d_D_trackHolding_0 : decode b_D_trackHolding 0 = .ok (.aload_n 0, 1) := by decide +kernel
theorem d_D_trackHolding_1 : decode b_D_trackHolding 1 = .ok (.iload_n 1, 1) := by decide +kernel
theorem d_D_trackHolding_2 : decode b_D_trackHolding 2 = .ok (.invokevirtual 19, 3) := by decide +kernel
theorem d_D_trackHolding_5 : decode b_D_trackHolding 5 = .ok (.istore_n 3, 1) := by decide +kernel
theorem d_D_trackHolding_6 : decode b_D_trackHolding 6 = .ok (.iconst 0, 1) := by decide +kernel
theorem d_D_trackHolding_7 : decode b_D_trackHolding 7 = .ok (.istore 4, 2) := by decide +kernel
theorem d_D_trackHolding_9 : decode b_D_trackHolding 9 = .ok (.iload 4, 2) := by decide +kernel
theorem d_D_trackHolding_11 : decode b_D_trackHolding 11 = .ok (.iconst 4, 1) := by decide +kernel
theorem d_D_trackHolding_12 : decode b_D_trackHolding 12 = .ok (.if_icmp .ge 49, 3) := by decide +kernel
theorem d_D_trackHolding_15 : decode b_D_trackHolding 15 = .ok (.iload 4, 2) := by decide +kernel
theorem d_D_trackHolding_17 : decode b_D_trackHolding 17 = .ok (.iload_n 3, 1) := by decide +kernel
theorem d_D_trackHolding_18 : decode b_D_trackHolding 18 = .ok (.if_icmp .ge 43, 3) := by decide +kernel
theorem d_D_trackHolding_21 : decode b_D_trackHolding 21 = .ok (.aload_n 0, 1) := by decide +kernel
theorem d_D_trackHolding_22 : decode b_D_trackHolding 22 = .ok (.iload_n 1, 1) := by decide +kernel
theorem d_D_trackHolding_23 : decode b_D_trackHolding 23 = .ok (.iload_n 2, 1) := by decide +kernel
theorem d_D_trackHolding_24 : decode b_D_trackHolding 24 = .ok (.iload_n 3, 1) := by decide +kernel
theorem d_D_trackHolding_25 : decode b_D_trackHolding 25 = .ok (.iload 4, 2) := by decide +kernel
theorem d_D_trackHolding_27 : decode b_D_trackHolding 27 = .ok (.invokevirtual 32, 3) := by decide +kernel
theorem d_D_trackHolding_30 : decode b_D_trackHolding 30 = .ok (.istore 5, 2) := by decide +kernel
theorem d_D_trackHolding_32 : decode b_D_trackHolding 32 = .ok (.iload 5, 2) := by decide +kernel
theorem d_D_trackHolding_34 : decode b_D_trackHolding 34 = .ok (.iconst (-1), 1) := by decide +kernel
theorem d_D_trackHolding_35 : decode b_D_trackHolding 35 = .ok (.if_icmp .eq 20, 3) := by decide +kernel
theorem d_D_trackHolding_38 : decode b_D_trackHolding 38 = .ok (.aload_n 0, 1) := by decide +kernel
theorem d_D_trackHolding_39 : decode b_D_trackHolding 39 = .ok (.getfield 15, 3) := by decide +kernel
theorem d_D_trackHolding_42 : decode b_D_trackHolding 42 = .ok (.iload 5, 2) := by decide +kernel
theorem d_D_trackHolding_44 : decode b_D_trackHolding 44 = .ok (.aaload, 1) := by decide +kernel
theorem d_D_trackHolding_45 : decode b_D_trackHolding 45 = .ok (.iload_n 2, 1) := by decide +kernel
theorem d_D_trackHolding_46 : decode b_D_trackHolding 46 = .ok (.invokevirtual 36, 3) := by decide +kernel
theorem d_D_trackHolding_49 : decode b_D_trackHolding 49 = .ok (.ifCond .le 6, 3) := by decide +kernel
theorem d_D_trackHolding_52 : decode b_D_trackHolding 52 = .ok (.iload 5, 2) := by decide +kernel
theorem d_D_trackHolding_54 : decode b_D_trackHolding 54 = .ok (.ireturn, 1) := by decide +kernel
theorem d_D_trackHolding_55 : decode b_D_trackHolding 55 = .ok (.iinc 4 1, 3) := by decide +kernel
theorem d_D_trackHolding_58 : decode b_D_trackHolding 58 = .ok (.goto (-49), 3) := by decide +kernel
theorem d_D_trackHolding_61 : decode b_D_trackHolding 61 = .ok (.iconst (-1), 1) := by decide +kernel
theorem d_D_trackHolding_62 : decode b_D_trackHolding 62 = .ok (.ireturn, 1) := by decide +kernel
theorem d_D_trackWithRoom_0 : decode b_D_trackWithRoom 0 = .ok (.aload_n 0, 1) := by decide +kernel
theorem d_D_trackWithRoom_1 : decode b_D_trackWithRoom 1 = .ok (.iload_n 1, 1) := by decide +kernel
theorem d_D_trackWithRoom_2 : decode b_D_trackWithRoom 2 = .ok (.invokevirtual 19, 3) := by decide +kernel
theorem d_D_trackWithRoom_5 : decode b_D_trackWithRoom 5 = .ok (.istore 4, 2) := by decide +kernel
theorem d_D_trackWithRoom_7 : decode b_D_trackWithRoom 7 = .ok (.iconst 0, 1) := by decide +kernel
theorem d_D_trackWithRoom_8 : decode b_D_trackWithRoom 8 = .ok (.istore 5, 2) := by decide +kernel
theorem d_D_trackWithRoom_10 : decode b_D_trackWithRoom 10 = .ok (.iload 5, 2) := by decide +kernel
theorem d_D_trackWithRoom_12 : decode b_D_trackWithRoom 12 = .ok (.iconst 4, 1) := by decide +kernel
theorem d_D_trackWithRoom_13 : decode b_D_trackWithRoom 13 = .ok (.if_icmp .ge 61, 3) := by decide +kernel
theorem d_D_trackWithRoom_16 : decode b_D_trackWithRoom 16 = .ok (.iload 5, 2) := by decide +kernel
theorem d_D_trackWithRoom_18 : decode b_D_trackWithRoom 18 = .ok (.iload 4, 2) := by decide +kernel
theorem d_D_trackWithRoom_20 : decode b_D_trackWithRoom 20 = .ok (.if_icmp .ge 54, 3) := by decide +kernel
theorem d_D_trackWithRoom_23 : decode b_D_trackWithRoom 23 = .ok (.aload_n 0, 1) := by decide +kernel
theorem d_D_trackWithRoom_24 : decode b_D_trackWithRoom 24 = .ok (.iload_n 1, 1) := by decide +kernel
theorem d_D_trackWithRoom_25 : decode b_D_trackWithRoom 25 = .ok (.iload_n 2, 1) := by decide +kernel
theorem d_D_trackWithRoom_26 : decode b_D_trackWithRoom 26 = .ok (.iload 4, 2) := by decide +kernel
theorem d_D_trackWithRoom_28 : decode b_D_trackWithRoom 28 = .ok (.iload 5, 2) := by decide +kernel
theorem d_D_trackWithRoom_30 : decode b_D_trackWithRoom 30 = .ok (.invokevirtual 32, 3) := by decide +kernel
theorem d_D_trackWithRoom_33 : decode b_D_trackWithRoom 33 = .ok (.istore 6, 2) := by decide +kernel
theorem d_D_trackWithRoom_35 : decode b_D_trackWithRoom 35 = .ok (.iload 6, 2) := by decide +kernel
theorem d_D_trackWithRoom_37 : decode b_D_trackWithRoom 37 = .ok (.iconst (-1), 1) := by decide +kernel
theorem d_D_trackWithRoom_38 : decode b_D_trackWithRoom 38 = .ok (.if_icmp .eq 30, 3) := by decide +kernel
theorem d_D_trackWithRoom_41 : decode b_D_trackWithRoom 41 = .ok (.aload_n 0, 1) := by decide +kernel
theorem d_D_trackWithRoom_42 : decode b_D_trackWithRoom 42 = .ok (.getfield 15, 3) := by decide +kernel
theorem d_D_trackWithRoom_45 : decode b_D_trackWithRoom 45 = .ok (.iload 6, 2) := by decide +kernel
theorem d_D_trackWithRoom_47 : decode b_D_trackWithRoom 47 = .ok (.aaload, 1) := by decide +kernel
theorem d_D_trackWithRoom_48 : decode b_D_trackWithRoom 48 = .ok (.aload_n 0, 1) := by decide +kernel
theorem d_D_trackWithRoom_49 : decode b_D_trackWithRoom 49 = .ok (.getfield 15, 3) := by decide +kernel
theorem d_D_trackWithRoom_52 : decode b_D_trackWithRoom 52 = .ok (.iload 6, 2) := by decide +kernel
theorem d_D_trackWithRoom_54 : decode b_D_trackWithRoom 54 = .ok (.aaload, 1) := by decide +kernel
theorem d_D_trackWithRoom_55 : decode b_D_trackWithRoom 55 = .ok (.getfield 39, 3) := by decide +kernel
theorem d_D_trackWithRoom_58 : decode b_D_trackWithRoom 58 = .ok (.iload_n 3, 1) := by decide +kernel
theorem d_D_trackWithRoom_59 : decode b_D_trackWithRoom 59 = .ok (.invokevirtual 43, 3) := by decide +kernel
theorem d_D_trackWithRoom_62 : decode b_D_trackWithRoom 62 = .ok (.ifCond .eq 6, 3) := by decide +kernel
theorem d_D_trackWithRoom_65 : decode b_D_trackWithRoom 65 = .ok (.iload 6, 2) := by decide +kernel
theorem d_D_trackWithRoom_67 : decode b_D_trackWithRoom 67 = .ok (.ireturn, 1) := by decide +kernel
theorem d_D_trackWithRoom_68 : decode b_D_trackWithRoom 68 = .ok (.iinc 5 1, 3) := by decide +kernel
theorem d_D_trackWithRoom_71 : decode b_D_trackWithRoom 71 = .ok (.goto (-61), 3) := by decide +kernel
theorem d_D_trackWithRoom_74 : decode b_D_trackWithRoom 74 = .ok (.iconst (-1), 1) := by decide +kernel
theorem d_D_trackWithRoom_75 : decode b_D_trackWithRoom 75 = .ok (.ireturn, 1) := by decide +kernel
theorem d_D_trackNear_0 : decode b_D_trackNear 0 = .ok (.iload_n 3, 1) := by decide +kernel
theorem d_D_trackNear_1 : decode b_D_trackNear 1 = .ok (.ifCond .ne 5, 3) := by decide +kernel
theorem d_D_trackNear_4 : decode b_D_trackNear 4 = .ok (.iconst (-1), 1) := by decide +kernel
theorem d_D_trackNear_5 : decode b_D_trackNear 5 = .ok (.ireturn, 1) := by decide +kernel
theorem d_D_trackNear_6 : decode b_D_trackNear 6 = .ok (.iload_n 2, 1) := by decide +kernel
theorem d_D_trackNear_7 : decode b_D_trackNear 7 = .ok (.i2l, 1) := by decide +kernel
theorem d_D_trackNear_8 : decode b_D_trackNear 8 = .ok (.ldc2_w 47, 3) := by decide +kernel
theorem d_D_trackNear_11 : decode b_D_trackNear 11 = .ok (.land, 1) := by decide +kernel
theorem d_D_trackNear_12 : decode b_D_trackNear 12 = .ok (.lstore 5, 2) := by decide +kernel
theorem d_D_trackNear_14 : decode b_D_trackNear 14 = .ok (.aload_n 0, 1) := by decide +kernel
theorem d_D_trackNear_15 : decode b_D_trackNear 15 = .ok (.iload_n 1, 1) := by decide +kernel
theorem d_D_trackNear_16 : decode b_D_trackNear 16 = .ok (.lload 5, 2) := by decide +kernel
theorem d_D_trackNear_18 : decode b_D_trackNear 18 = .ok (.iload 4, 2) := by decide +kernel
theorem d_D_trackNear_20 : decode b_D_trackNear 20 = .ok (.i2l, 1) := by decide +kernel
theorem d_D_trackNear_21 : decode b_D_trackNear 21 = .ok (.ladd, 1) := by decide +kernel
theorem d_D_trackNear_22 : decode b_D_trackNear 22 = .ok (.iload_n 3, 1) := by decide +kernel
theorem d_D_trackNear_23 : decode b_D_trackNear 23 = .ok (.i2l, 1) := by decide +kernel
theorem d_D_trackNear_24 : decode b_D_trackNear 24 = .ok (.lrem, 1) := by decide +kernel
theorem d_D_trackNear_25 : decode b_D_trackNear 25 = .ok (.l2i, 1) := by decide +kernel
theorem d_D_trackNear_26 : decode b_D_trackNear 26 = .ok (.invokevirtual 49, 3) := by decide +kernel
theorem d_D_trackNear_29 : decode b_D_trackNear 29 = .ok (.ireturn, 1) := by decide +kernel
theorem d_D_extentsOfFree_0 : decode b_D_extentsOfFree 0 = .ok (.iconst 0, 1) := by decide +kernel
theorem d_D_extentsOfFree_1 : decode b_D_extentsOfFree 1 = .ok (.istore_n 2, 1) := by decide +kernel
theorem d_D_extentsOfFree_2 : decode b_D_extentsOfFree 2 = .ok (.iconst 0, 1) := by decide +kernel
theorem d_D_extentsOfFree_3 : decode b_D_extentsOfFree 3 = .ok (.istore_n 3, 1) := by decide +kernel
theorem d_D_extentsOfFree_4 : decode b_D_extentsOfFree 4 = .ok (.iconst 0, 1) := by decide +kernel
theorem d_D_extentsOfFree_5 : decode b_D_extentsOfFree 5 = .ok (.istore 4, 2) := by decide +kernel
theorem d_D_extentsOfFree_7 : decode b_D_extentsOfFree 7 = .ok (.iload 4, 2) := by decide +kernel
theorem d_D_extentsOfFree_9 : decode b_D_extentsOfFree 9 = .ok (.bipush 32, 2) := by decide +kernel
theorem d_D_extentsOfFree_11 : decode b_D_extentsOfFree 11 = .ok (.if_icmp .ge 49, 3) := by decide +kernel
theorem d_D_extentsOfFree_14 : decode b_D_extentsOfFree 14 = .ok (.iload_n 3, 1) := by decide +kernel
theorem d_D_extentsOfFree_15 : decode b_D_extentsOfFree 15 = .ok (.iload_n 1, 1) := by decide +kernel
theorem d_D_extentsOfFree_16 : decode b_D_extentsOfFree 16 = .ok (.if_icmp .ge 44, 3) := by decide +kernel
theorem d_D_extentsOfFree_19 : decode b_D_extentsOfFree 19 = .ok (.aload_n 0, 1) := by decide +kernel
theorem d_D_extentsOfFree_20 : decode b_D_extentsOfFree 20 = .ok (.getfield 9, 3) := by decide +kernel
theorem d_D_extentsOfFree_23 : decode b_D_extentsOfFree 23 = .ok (.iload 4, 2) := by decide +kernel
theorem d_D_extentsOfFree_25 : decode b_D_extentsOfFree 25 = .ok (.iaload, 1) := by decide +kernel
theorem d_D_extentsOfFree_26 : decode b_D_extentsOfFree 26 = .ok (.iconst (-1), 1) := by decide +kernel
theorem d_D_extentsOfFree_27 : decode b_D_extentsOfFree 27 = .ok (.if_icmp .ne 27, 3) := by decide +kernel
theorem d_D_extentsOfFree_30 : decode b_D_extentsOfFree 30 = .ok (.iinc 3 1, 3) := by decide +kernel
theorem d_D_extentsOfFree_33 : decode b_D_extentsOfFree 33 = .ok (.iload 4, 2) := by decide +kernel
theorem d_D_extentsOfFree_35 : decode b_D_extentsOfFree 35 = .ok (.ifCond .eq 16, 3) := by decide +kernel
theorem d_D_extentsOfFree_38 : decode b_D_extentsOfFree 38 = .ok (.aload_n 0, 1) := by decide +kernel
theorem d_D_extentsOfFree_39 : decode b_D_extentsOfFree 39 = .ok (.getfield 9, 3) := by decide +kernel
theorem d_D_extentsOfFree_42 : decode b_D_extentsOfFree 42 = .ok (.iload 4, 2) := by decide +kernel
theorem d_D_extentsOfFree_44 : decode b_D_extentsOfFree 44 = .ok (.iconst 1, 1) := by decide +kernel
theorem d_D_extentsOfFree_45 : decode b_D_extentsOfFree 45 = .ok (.isub, 1) := by decide +kernel
theorem d_D_extentsOfFree_46 : decode b_D_extentsOfFree 46 = .ok (.iaload, 1) := by decide +kernel
theorem d_D_extentsOfFree_47 : decode b_D_extentsOfFree 47 = .ok (.iconst (-1), 1) := by decide +kernel
theorem d_D_extentsOfFree_48 : decode b_D_extentsOfFree 48 = .ok (.if_icmp .eq 6, 3) := by decide +kernel
theorem d_D_extentsOfFree_51 : decode b_D_extentsOfFree 51 = .ok (.iinc 2 1, 3) := by decide +kernel
theorem d_D_extentsOfFree_54 : decode b_D_extentsOfFree 54 = .ok (.iinc 4 1, 3) := by decide +kernel
theorem d_D_extentsOfFree_57 : decode b_D_extentsOfFree 57 = .ok (.goto (-50), 3) := by decide +kernel
theorem d_D_extentsOfFree_60 : decode b_D_extentsOfFree 60 = .ok (.iload_n 2, 1) := by decide +kernel
theorem d_D_extentsOfFree_61 : decode b_D_extentsOfFree 61 = .ok (.ireturn, 1) := by decide +kernel
theorem d_C_init_0 : decode b_C_init 0 = .ok (.aload_n 0, 1) := by decide +kernel
theorem d_C_init_1 : decode b_C_init 1 = .ok (.invokespecial 3, 3) := by decide +kernel
theorem d_C_init_4 : decode b_C_init 4 = .ok (.aload_n 0, 1) := by decide +kernel
theorem d_C_init_5 : decode b_C_init 5 = .ok (.aload_n 1, 1) := by decide +kernel
theorem d_C_init_6 : decode b_C_init 6 = .ok (.putfield 9, 3) := by decide +kernel
theorem d_C_init_9 : decode b_C_init 9 = .ok (.aload_n 0, 1) := by decide +kernel
theorem d_C_init_10 : decode b_C_init 10 = .ok (.aload_n 2, 1) := by decide +kernel
theorem d_C_init_11 : decode b_C_init 11 = .ok (.putfield 15, 3) := by decide +kernel
theorem d_C_init_14 : decode b_C_init 14 = .ok (.aload_n 0, 1) := by decide +kernel
theorem d_C_init_15 : decode b_C_init 15 = .ok (.aload_n 3, 1) := by decide +kernel
theorem d_C_init_16 : decode b_C_init 16 = .ok (.putfield 19, 3) := by decide +kernel
theorem d_C_init_19 : decode b_C_init 19 = .ok (.return_, 1) := by decide +kernel
theorem d_C_indexPassed_0 : decode b_C_indexPassed 0 = .ok (.aload_n 0, 1) := by decide +kernel
theorem d_C_indexPassed_1 : decode b_C_indexPassed 1 = .ok (.getfield 15, 3) := by decide +kernel
theorem d_C_indexPassed_4 : decode b_C_indexPassed 4 = .ok (.invokevirtual 23, 3) := by decide +kernel
theorem d_C_indexPassed_7 : decode b_C_indexPassed 7 = .ok (.aload_n 0, 1) := by decide +kernel
theorem d_C_indexPassed_8 : decode b_C_indexPassed 8 = .ok (.getfield 29, 3) := by decide +kernel
theorem d_C_indexPassed_11 : decode b_C_indexPassed 11 = .ok (.lsub, 1) := by decide +kernel
theorem d_C_indexPassed_12 : decode b_C_indexPassed 12 = .ok (.l2i, 1) := by decide +kernel
theorem d_C_indexPassed_13 : decode b_C_indexPassed 13 = .ok (.ireturn, 1) := by decide +kernel
theorem d_C_run_0 : decode b_C_run 0 = .ok (.aload_n 0, 1) := by decide +kernel
theorem d_C_run_1 : decode b_C_run 1 = .ok (.invokevirtual 33, 3) := by decide +kernel
theorem d_C_run_4 : decode b_C_run 4 = .ok (.iconst 0, 1) := by decide +kernel
theorem d_C_run_5 : decode b_C_run 5 = .ok (.istore_n 1, 1) := by decide +kernel
theorem d_C_run_6 : decode b_C_run 6 = .ok (.iconst 0, 1) := by decide +kernel
theorem d_C_run_7 : decode b_C_run 7 = .ok (.istore_n 2, 1) := by decide +kernel
theorem d_C_run_8 : decode b_C_run 8 = .ok (.iconst 0, 1) := by decide +kernel
theorem d_C_run_9 : decode b_C_run 9 = .ok (.istore_n 3, 1) := by decide +kernel
theorem d_C_run_10 : decode b_C_run 10 = .ok (.iload_n 3, 1) := by decide +kernel
theorem d_C_run_11 : decode b_C_run 11 = .ok (.sipush 400, 3) := by decide +kernel
theorem d_C_run_14 : decode b_C_run 14 = .ok (.if_icmp .gt 53, 3) := by decide +kernel
theorem d_C_run_17 : decode b_C_run 17 = .ok (.aload_n 0, 1) := by decide +kernel
theorem d_C_run_18 : decode b_C_run 18 = .ok (.getfield 36, 3) := by decide +kernel
theorem d_C_run_21 : decode b_C_run 21 = .ok (.aload_n 0, 1) := by decide +kernel
theorem d_C_run_22 : decode b_C_run 22 = .ok (.getfield 9, 3) := by decide +kernel
theorem d_C_run_25 : decode b_C_run 25 = .ok (.getfield 40, 3) := by decide +kernel
theorem d_C_run_28 : decode b_C_run 28 = .ok (.if_icmp .ge 39, 3) := by decide +kernel
theorem d_C_run_31 : decode b_C_run 31 = .ok (.iload_n 1, 1) := by decide +kernel
theorem d_C_run_32 : decode b_C_run 32 = .ok (.ifCond .ne 35, 3) := by decide +kernel
theorem d_C_run_35 : decode b_C_run 35 = .ok (.aload_n 0, 1) := by decide +kernel
theorem d_C_run_36 : decode b_C_run 36 = .ok (.getfield 36, 3) := by decide +kernel
theorem d_C_run_39 : decode b_C_run 39 = .ok (.istore_n 2, 1) := by decide +kernel
theorem d_C_run_40 : decode b_C_run 40 = .ok (.aload_n 0, 1) := by decide +kernel
theorem d_C_run_41 : decode b_C_run 41 = .ok (.iload_n 2, 1) := by decide +kernel
theorem d_C_run_42 : decode b_C_run 42 = .ok (.invokevirtual 45, 3) := by decide +kernel
theorem d_C_run_45 : decode b_C_run 45 = .ok (.istore_n 1, 1) := by decide +kernel
theorem d_C_run_46 : decode b_C_run 46 = .ok (.iload_n 1, 1) := by decide +kernel
theorem d_C_run_47 : decode b_C_run 47 = .ok (.ifCond .ne 14, 3) := by decide +kernel
theorem d_C_run_50 : decode b_C_run 50 = .ok (.aload_n 0, 1) := by decide +kernel
theorem d_C_run_51 : decode b_C_run 51 = .ok (.iload_n 2, 1) := by decide +kernel
theorem d_C_run_52 : decode b_C_run 52 = .ok (.invokevirtual 49, 3) := by decide +kernel
theorem d_C_run_55 : decode b_C_run 55 = .ok (.aload_n 0, 1) := by decide +kernel
theorem d_C_run_56 : decode b_C_run 56 = .ok (.iload_n 2, 1) := by decide +kernel
theorem d_C_run_57 : decode b_C_run 57 = .ok (.invokevirtual 53, 3) := by decide +kernel
theorem d_C_run_60 : decode b_C_run 60 = .ok (.istore_n 1, 1) := by decide +kernel
theorem d_C_run_61 : decode b_C_run 61 = .ok (.iinc 3 1, 3) := by decide +kernel
theorem d_C_run_64 : decode b_C_run 64 = .ok (.goto (-54), 3) := by decide +kernel
theorem d_C_run_67 : decode b_C_run 67 = .ok (.aload_n 0, 1) := by decide +kernel
theorem d_C_run_68 : decode b_C_run 68 = .ok (.iload_n 1, 1) := by decide +kernel
theorem d_C_run_69 : decode b_C_run 69 = .ok (.ifCond .ne 13, 3) := by decide +kernel
theorem d_C_run_72 : decode b_C_run 72 = .ok (.aload_n 0, 1) := by decide +kernel
theorem d_C_run_73 : decode b_C_run 73 = .ok (.getfield 9, 3) := by decide +kernel
theorem d_C_run_76 : decode b_C_run 76 = .ok (.getfield 40, 3) := by decide +kernel
theorem d_C_run_79 : decode b_C_run 79 = .ok (.goto 4, 3) := by decide +kernel
theorem d_C_run_82 : decode b_C_run 82 = .ok (.iload_n 2, 1) := by decide +kernel
theorem d_C_run_83 : decode b_C_run 83 = .ok (.putfield 56, 3) := by decide +kernel
theorem d_C_run_86 : decode b_C_run 86 = .ok (.aload_n 0, 1) := by decide +kernel
theorem d_C_run_87 : decode b_C_run 87 = .ok (.getfield 15, 3) := by decide +kernel
theorem d_C_run_90 : decode b_C_run 90 = .ok (.invokevirtual 59, 3) := by decide +kernel
theorem d_C_run_93 : decode b_C_run 93 = .ok (.iload_n 1, 1) := by decide +kernel
theorem d_C_run_94 : decode b_C_run 94 = .ok (.ireturn, 1) := by decide +kernel
theorem d_C_prepare_0 : decode b_C_prepare 0 = .ok (.aload_n 0, 1) := by decide +kernel
theorem d_C_prepare_1 : decode b_C_prepare 1 = .ok (.iconst 0, 1) := by decide +kernel
theorem d_C_prepare_2 : decode b_C_prepare 2 = .ok (.putfield 62, 3) := by decide +kernel
theorem d_C_prepare_5 : decode b_C_prepare 5 = .ok (.aload_n 0, 1) := by decide +kernel
theorem d_C_prepare_6 : decode b_C_prepare 6 = .ok (.iconst 0, 1) := by decide +kernel
theorem d_C_prepare_7 : decode b_C_prepare 7 = .ok (.putfield 65, 3) := by decide +kernel
theorem d_C_prepare_10 : decode b_C_prepare 10 = .ok (.aload_n 0, 1) := by decide +kernel
theorem d_C_prepare_11 : decode b_C_prepare 11 = .ok (.iconst 0, 1) := by decide +kernel
theorem d_C_prepare_12 : decode b_C_prepare 12 = .ok (.putfield 36, 3) := by decide +kernel
theorem d_C_prepare_15 : decode b_C_prepare 15 = .ok (.aload_n 0, 1) := by decide +kernel
theorem d_C_prepare_16 : decode b_C_prepare 16 = .ok (.iconst (-1), 1) := by decide +kernel
theorem d_C_prepare_17 : decode b_C_prepare 17 = .ok (.putfield 68, 3) := by decide +kernel
theorem d_C_prepare_20 : decode b_C_prepare 20 = .ok (.aload_n 0, 1) := by decide +kernel
theorem d_C_prepare_21 : decode b_C_prepare 21 = .ok (.aload_n 0, 1) := by decide +kernel
theorem d_C_prepare_22 : decode b_C_prepare 22 = .ok (.getfield 15, 3) := by decide +kernel
theorem d_C_prepare_25 : decode b_C_prepare 25 = .ok (.invokevirtual 23, 3) := by decide +kernel
theorem d_C_prepare_28 : decode b_C_prepare 28 = .ok (.putfield 29, 3) := by decide +kernel
theorem d_C_prepare_31 : decode b_C_prepare 31 = .ok (.aload_n 0, 1) := by decide +kernel
theorem d_C_prepare_32 : decode b_C_prepare 32 = .ok (.aload_n 0, 1) := by decide +kernel
theorem d_C_prepare_33 : decode b_C_prepare 33 = .ok (.getfield 29, 3) := by decide +kernel
theorem d_C_prepare_36 : decode b_C_prepare 36 = .ok (.putfield 71, 3) := by decide +kernel
theorem d_C_prepare_39 : decode b_C_prepare 39 = .ok (.return_, 1) := by decide +kernel
theorem d_C_refusal_0 : decode b_C_refusal 0 = .ok (.aload_n 0, 1) := by decide +kernel
theorem d_C_refusal_1 : decode b_C_refusal 1 = .ok (.getfield 65, 3) := by decide +kernel
theorem d_C_refusal_4 : decode b_C_refusal 4 = .ok (.sipush 400, 3) := by decide +kernel
theorem d_C_refusal_7 : decode b_C_refusal 7 = .ok (.if_icmp .ne 6, 3) := by decide +kernel
theorem d_C_refusal_10 : decode b_C_refusal 10 = .ok (.bipush 6, 2) := by decide +kernel
theorem d_C_refusal_12 : decode b_C_refusal 12 = .ok (.ireturn, 1) := by decide +kernel
theorem d_C_refusal_13 : decode b_C_refusal 13 = .ok (.aload_n 0, 1) := by decide +kernel
theorem d_C_refusal_14 : decode b_C_refusal 14 = .ok (.iload_n 1, 1) := by decide +kernel
theorem d_C_refusal_15 : decode b_C_refusal 15 = .ok (.invokevirtual 74, 3) := by decide +kernel
theorem d_C_refusal_18 : decode b_C_refusal 18 = .ok (.ifCond .eq 7, 3) := by decide +kernel
theorem d_C_refusal_21 : decode b_C_refusal 21 = .ok (.iconst 0, 1) := by decide +kernel
theorem d_C_refusal_22 : decode b_C_refusal 22 = .ok (.goto 4, 3) := by decide +kernel
theorem d_C_refusal_25 : decode b_C_refusal 25 = .ok (.iconst 2, 1) := by decide +kernel
theorem d_C_refusal_26 : decode b_C_refusal 26 = .ok (.ireturn, 1) := by decide +kernel
theorem d_C_begin_0 : decode b_C_begin 0 = .ok (.aload_n 0, 1) := by decide +kernel
theorem d_C_begin_1 : decode b_C_begin 1 = .ok (.getfield 9, 3) := by decide +kernel
theorem d_C_begin_4 : decode b_C_begin 4 = .ok (.getfield 78, 3) := by decide +kernel
theorem d_C_begin_7 : decode b_C_begin 7 = .ok (.iload_n 1, 1) := by decide +kernel
theorem d_C_begin_8 : decode b_C_begin 8 = .ok (.iaload, 1) := by decide +kernel
theorem d_C_begin_9 : decode b_C_begin 9 = .ok (.iconst 1, 1) := by decide +kernel
theorem d_C_begin_10 : decode b_C_begin 10 = .ok (.iconst 3, 1) := by decide +kernel
theorem d_C_begin_11 : decode b_C_begin 11 = .ok (.invokestatic 82, 3) := by decide +kernel
theorem d_C_begin_14 : decode b_C_begin 14 = .ok (.istore_n 2, 1) := by decide +kernel
theorem d_C_begin_15 : decode b_C_begin 15 = .ok (.aload_n 0, 1) := by decide +kernel
theorem d_C_begin_16 : decode b_C_begin 16 = .ok (.dup, 1) := by decide +kernel
theorem d_C_begin_17 : decode b_C_begin 17 = .ok (.getfield 65, 3) := by decide +kernel
theorem d_C_begin_20 : decode b_C_begin 20 = .ok (.iconst 1, 1) := by decide +kernel
theorem d_C_begin_21 : decode b_C_begin 21 = .ok (.iadd, 1) := by decide +kernel
theorem d_C_begin_22 : decode b_C_begin 22 = .ok (.putfield 65, 3) := by decide +kernel
theorem d_C_begin_25 : decode b_C_begin 25 = .ok (.aload_n 0, 1) := by decide +kernel
theorem d_C_begin_26 : decode b_C_begin 26 = .ok (.iload_n 1, 1) := by decide +kernel
theorem d_C_begin_27 : decode b_C_begin 27 = .ok (.iconst 1, 1) := by decide +kernel
theorem d_C_begin_28 : decode b_C_begin 28 = .ok (.iadd, 1) := by decide +kernel
theorem d_C_begin_29 : decode b_C_begin 29 = .ok (.putfield 36, 3) := by decide +kernel
theorem d_C_begin_32 : decode b_C_begin 32 = .ok (.aload_n 0, 1) := by decide +kernel
theorem d_C_begin_33 : decode b_C_begin 33 = .ok (.iload_n 2, 1) := by decide +kernel
theorem d_C_begin_34 : decode b_C_begin 34 = .ok (.ifCond .eq 10, 3) := by decide +kernel
theorem d_C_begin_37 : decode b_C_begin 37 = .ok (.aload_n 0, 1) := by decide +kernel
theorem d_C_begin_38 : decode b_C_begin 38 = .ok (.getfield 36, 3) := by decide +kernel
theorem d_C_begin_41 : decode b_C_begin 41 = .ok (.goto 4, 3) := by decide +kernel
theorem d_C_begin_44 : decode b_C_begin 44 = .ok (.iconst (-1), 1) := by decide +kernel
theorem d_C_begin_45 : decode b_C_begin 45 = .ok (.putfield 68, 3) := by decide +kernel
theorem d_C_begin_48 : decode b_C_begin 48 = .ok (.return_, 1) := by decide +kernel
theorem d_C_canBegin_0 : decode b_C_canBegin 0 = .ok (.aload_n 0, 1) := by decide +kernel
theorem d_C_canBegin_1 : decode b_C_canBegin 1 = .ok (.getfield 9, 3) := by decide +kernel
theorem d_C_canBegin_4 : decode b_C_canBegin 4 = .ok (.getfield 86, 3) := by decide +kernel
theorem d_C_canBegin_7 : decode b_C_canBegin 7 = .ok (.iload_n 1, 1) := by decide +kernel
theorem d_C_canBegin_8 : decode b_C_canBegin 8 = .ok (.iaload, 1) := by decide +kernel
theorem d_C_canBegin_9 : decode b_C_canBegin 9 = .ok (.istore_n 2, 1) := by decide +kernel
theorem d_C_canBegin_10 : decode b_C_canBegin 10 = .ok (.aload_n 0, 1) := by decide +kernel
theorem d_C_canBegin_11 : decode b_C_canBegin 11 = .ok (.getfield 9, 3) := by decide +kernel
theorem d_C_canBegin_14 : decode b_C_canBegin 14 = .ok (.getfield 89, 3) := by decide +kernel
theorem d_C_canBegin_17 : decode b_C_canBegin 17 = .ok (.iload_n 1, 1) := by decide +kernel
theorem d_C_canBegin_18 : decode b_C_canBegin 18 = .ok (.iaload, 1) := by decide +kernel
theorem d_C_canBegin_19 : decode b_C_canBegin 19 = .ok (.istore_n 3, 1) := by decide +kernel
theorem d_C_canBegin_20 : decode b_C_canBegin 20 = .ok (.aload_n 0, 1) := by decide +kernel
theorem d_C_canBegin_21 : decode b_C_canBegin 21 = .ok (.getfield 9, 3) := by decide +kernel
theorem d_C_canBegin_24 : decode b_C_canBegin 24 = .ok (.getfield 78, 3) := by decide +kernel
theorem d_C_canBegin_27 : decode b_C_canBegin 27 = .ok (.iload_n 1, 1) := by decide +kernel
theorem d_C_canBegin_28 : decode b_C_canBegin 28 = .ok (.iaload, 1) := by decide +kernel
theorem d_C_canBegin_29 : decode b_C_canBegin 29 = .ok (.tableswitch 163 0 11 #[63, 163, 71, 71, 95, 118, 124, 124, 124, 148, 163, 154], 63) := by decide +kernel
theorem d_C_canBegin_92 : decode b_C_canBegin 92 = .ok (.iload_n 2, 1) := by decide +kernel
theorem d_C_canBegin_93 : decode b_C_canBegin 93 = .ok (.iconst 0, 1) := by decide +kernel
theorem d_C_canBegin_94 : decode b_C_canBegin 94 = .ok (.bipush 31, 2) := by decide +kernel
theorem d_C_canBegin_96 : decode b_C_canBegin 96 = .ok (.invokestatic 82, 3) := by decide +kernel
theorem d_C_canBegin_99 : decode b_C_canBegin 99 = .ok (.ireturn, 1) := by decide +kernel
theorem d_C_canBegin_100 : decode b_C_canBegin 100 = .ok (.iload_n 3, 1) := by decide +kernel
theorem d_C_canBegin_101 : decode b_C_canBegin 101 = .ok (.iconst 0, 1) := by decide +kernel
theorem d_C_canBegin_102 : decode b_C_canBegin 102 = .ok (.bipush 8, 2) := by decide +kernel
theorem d_C_canBegin_104 : decode b_C_canBegin 104 = .ok (.invokestatic 82, 3) := by decide +kernel
theorem d_C_canBegin_107 : decode b_C_canBegin 107 = .ok (.ifCond .eq 15, 3) := by decide +kernel
theorem d_C_canBegin_110 : decode b_C_canBegin 110 = .ok (.iload_n 2, 1) := by decide +kernel
theorem d_C_canBegin_111 : decode b_C_canBegin 111 = .ok (.iload_n 3, 1) := by decide +kernel
theorem d_C_canBegin_112 : decode b_C_canBegin 112 = .ok (.invokestatic 92, 3) := by decide +kernel
theorem d_C_canBegin_115 : decode b_C_canBegin 115 = .ok (.ifCond .eq 7, 3) := by decide +kernel
theorem d_C_canBegin_118 : decode b_C_canBegin 118 = .ok (.iconst 1, 1) := by decide +kernel
theorem d_C_canBegin_119 : decode b_C_canBegin 119 = .ok (.goto 4, 3) := by decide +kernel
theorem d_C_canBegin_122 : decode b_C_canBegin 122 = .ok (.iconst 0, 1) := by decide +kernel
theorem d_C_canBegin_123 : decode b_C_canBegin 123 = .ok (.ireturn, 1) := by decide +kernel
theorem d_C_canBegin_124 : decode b_C_canBegin 124 = .ok (.iload_n 1, 1) := by decide +kernel
theorem d_C_canBegin_125 : decode b_C_canBegin 125 = .ok (.aload_n 0, 1) := by decide +kernel
theorem d_C_canBegin_126 : decode b_C_canBegin 126 = .ok (.getfield 68, 3) := by decide +kernel
theorem d_C_canBegin_129 : decode b_C_canBegin 129 = .ok (.if_icmp .ne 16, 3) := by decide +kernel
theorem d_C_canBegin_132 : decode b_C_canBegin 132 = .ok (.iload_n 2, 1) := by decide +kernel
theorem d_C_canBegin_133 : decode b_C_canBegin 133 = .ok (.iconst 0, 1) := by decide +kernel
theorem d_C_canBegin_134 : decode b_C_canBegin 134 = .ok (.iload_n 1, 1) := by decide +kernel
theorem d_C_canBegin_135 : decode b_C_canBegin 135 = .ok (.invokestatic 82, 3) := by decide +kernel
theorem d_C_canBegin_138 : decode b_C_canBegin 138 = .ok (.ifCond .eq 7, 3) := by decide +kernel
theorem d_C_canBegin_141 : decode b_C_canBegin 141 = .ok (.iconst 1, 1) := by decide +kernel
theorem d_C_canBegin_142 : decode b_C_canBegin 142 = .ok (.goto 4, 3) := by decide +kernel
theorem d_C_canBegin_145 : decode b_C_canBegin 145 = .ok (.iconst 0, 1) := by decide +kernel
theorem d_C_canBegin_146 : decode b_C_canBegin 146 = .ok (.ireturn, 1) := by decide +kernel
theorem d_C_canBegin_147 : decode b_C_canBegin 147 = .ok (.iload_n 2, 1) := by decide +kernel
theorem d_C_canBegin_148 : decode b_C_canBegin 148 = .ok (.iconst 4, 1) := by decide +kernel
theorem d_C_canBegin_149 : decode b_C_canBegin 149 = .ok (.invokestatic 92, 3) := by decide +kernel
theorem d_C_canBegin_152 : decode b_C_canBegin 152 = .ok (.ireturn, 1) := by decide +kernel
theorem d_C_canBegin_153 : decode b_C_canBegin 153 = .ok (.iload_n 3, 1) := by decide +kernel
theorem d_C_canBegin_154 : decode b_C_canBegin 154 = .ok (.iconst 0, 1) := by decide +kernel
theorem d_C_canBegin_155 : decode b_C_canBegin 155 = .ok (.bipush 60, 2) := by decide +kernel
theorem d_C_canBegin_157 : decode b_C_canBegin 157 = .ok (.invokestatic 82, 3) := by decide +kernel
theorem d_C_canBegin_160 : decode b_C_canBegin 160 = .ok (.ifCond .eq 15, 3) := by decide +kernel
theorem d_C_canBegin_163 : decode b_C_canBegin 163 = .ok (.iload_n 2, 1) := by decide +kernel
theorem d_C_canBegin_164 : decode b_C_canBegin 164 = .ok (.iload_n 3, 1) := by decide +kernel
theorem d_C_canBegin_165 : decode b_C_canBegin 165 = .ok (.invokestatic 92, 3) := by decide +kernel
theorem d_C_canBegin_168 : decode b_C_canBegin 168 = .ok (.ifCond .eq 7, 3) := by decide +kernel
theorem d_C_canBegin_171 : decode b_C_canBegin 171 = .ok (.iconst 1, 1) := by decide +kernel
theorem d_C_canBegin_172 : decode b_C_canBegin 172 = .ok (.goto 4, 3) := by decide +kernel
theorem d_C_canBegin_175 : decode b_C_canBegin 175 = .ok (.iconst 0, 1) := by decide +kernel
theorem d_C_canBegin_176 : decode b_C_canBegin 176 = .ok (.ireturn, 1) := by decide +kernel
theorem d_C_canBegin_177 : decode b_C_canBegin 177 = .ok (.aload_n 0, 1) := by decide +kernel
theorem d_C_canBegin_178 : decode b_C_canBegin 178 = .ok (.iload_n 2, 1) := by decide +kernel
theorem d_C_canBegin_179 : decode b_C_canBegin 179 = .ok (.invokevirtual 96, 3) := by decide +kernel
theorem d_C_canBegin_182 : decode b_C_canBegin 182 = .ok (.ireturn, 1) := by decide +kernel
theorem d_C_canBegin_183 : decode b_C_canBegin 183 = .ok (.iload_n 3, 1) := by decide +kernel
theorem d_C_canBegin_184 : decode b_C_canBegin 184 = .ok (.iconst 0, 1) := by decide +kernel
theorem d_C_canBegin_185 : decode b_C_canBegin 185 = .ok (.sipush 600, 3) := by decide +kernel
theorem d_C_canBegin_188 : decode b_C_canBegin 188 = .ok (.invokestatic 82, 3) := by decide +kernel
theorem d_C_canBegin_191 : decode b_C_canBegin 191 = .ok (.ireturn, 1) := by decide +kernel
theorem d_C_canBegin_192 : decode b_C_canBegin 192 = .ok (.iconst 1, 1) := by decide +kernel
theorem d_C_canBegin_193 : decode b_C_canBegin 193 = .ok (.ireturn, 1) := by decide +kernel
theorem d_C_isInMemory_0 : decode b_C_isInMemory 0 = .ok (.iload_n 0, 1) := by decide +kernel
theorem d_C_isInMemory_1 : decode b_C_isInMemory 1 = .ok (.iconst 0, 1) := by decide +kernel
theorem d_C_isInMemory_2 : decode b_C_isInMemory 2 = .ok (.sipush 255, 3) := by decide +kernel
theorem d_C_isInMemory_5 : decode b_C_isInMemory 5 = .ok (.invokestatic 82, 3) := by decide +kernel
theorem d_C_isInMemory_8 : decode b_C_isInMemory 8 = .ok (.ifCond .eq 16, 3) := by decide +kernel
theorem d_C_isInMemory_11 : decode b_C_isInMemory 11 = .ok (.iload_n 0, 1) := by decide +kernel
theorem d_C_isInMemory_12 : decode b_C_isInMemory 12 = .ok (.iload_n 1, 1) := by decide +kernel
theorem d_C_isInMemory_13 : decode b_C_isInMemory 13 = .ok (.iadd, 1) := by decide +kernel
theorem d_C_isInMemory_14 : decode b_C_isInMemory 14 = .ok (.sipush 256, 3) := by decide +kernel
theorem d_C_isInMemory_17 : decode b_C_isInMemory 17 = .ok (.if_icmp .gt 7, 3) := by decide +kernel
theorem d_C_isInMemory_20 : decode b_C_isInMemory 20 = .ok (.iconst 1, 1) := by decide +kernel
theorem d_C_isInMemory_21 : decode b_C_isInMemory 21 = .ok (.goto 4, 3) := by decide +kernel
theorem d_C_isInMemory_24 : decode b_C_isInMemory 24 = .ok (.iconst 0, 1) := by decide +kernel
theorem d_C_isInMemory_25 : decode b_C_isInMemory 25 = .ok (.ireturn, 1) := by decide +kernel
theorem d_C_isRecordInMemory_0 : decode b_C_isRecordInMemory 0 = .ok (.iload_n 1, 1) := by decide +kernel
theorem d_C_isRecordInMemory_1 : decode b_C_isRecordInMemory 1 = .ok (.iconst 2, 1) := by decide +kernel
theorem d_C_isRecordInMemory_2 : decode b_C_isRecordInMemory 2 = .ok (.invokestatic 92, 3) := by decide +kernel
theorem d_C_isRecordInMemory_5 : decode b_C_isRecordInMemory 5 = .ok (.ifCond .ne 5, 3) := by decide +kernel
theorem d_C_isRecordInMemory_8 : decode b_C_isRecordInMemory 8 = .ok (.iconst 0, 1) := by decide +kernel
theorem d_C_isRecordInMemory_9 : decode b_C_isRecordInMemory 9 = .ok (.ireturn, 1) := by decide +kernel
theorem d_C_isRecordInMemory_10 : decode b_C_isRecordInMemory 10 = .ok (.aload_n 0, 1) := by decide +kernel
theorem d_C_isRecordInMemory_11 : decode b_C_isRecordInMemory 11 = .ok (.getfield 19, 3) := by decide +kernel
theorem d_C_isRecordInMemory_14 : decode b_C_isRecordInMemory 14 = .ok (.iload_n 1, 1) := by decide +kernel
theorem d_C_isRecordInMemory_15 : decode b_C_isRecordInMemory 15 = .ok (.invokevirtual 99, 3) := by decide +kernel
theorem d_C_isRecordInMemory_18 : decode b_C_isRecordInMemory 18 = .ok (.istore_n 2, 1) := by decide +kernel
theorem d_C_isRecordInMemory_19 : decode b_C_isRecordInMemory 19 = .ok (.aload_n 0, 1) := by decide +kernel
theorem d_C_isRecordInMemory_20 : decode b_C_isRecordInMemory 20 = .ok (.getfield 19, 3) := by decide +kernel
theorem d_C_isRecordInMemory_23 : decode b_C_isRecordInMemory 23 = .ok (.iload_n 1, 1) := by decide +kernel
theorem d_C_isRecordInMemory_24 : decode b_C_isRecordInMemory 24 = .ok (.iconst 1, 1) := by decide +kernel
theorem d_C_isRecordInMemory_25 : decode b_C_isRecordInMemory 25 = .ok (.iadd, 1) := by decide +kernel
theorem d_C_isRecordInMemory_26 : decode b_C_isRecordInMemory 26 = .ok (.invokevirtual 99, 3) := by decide +kernel
theorem d_C_isRecordInMemory_29 : decode b_C_isRecordInMemory 29 = .ok (.istore_n 3, 1) := by decide +kernel
theorem d_C_isRecordInMemory_30 : decode b_C_isRecordInMemory 30 = .ok (.iload_n 2, 1) := by decide +kernel
theorem d_C_isRecordInMemory_31 : decode b_C_isRecordInMemory 31 = .ok (.bipush 8, 2) := by decide +kernel
theorem d_C_isRecordInMemory_33 : decode b_C_isRecordInMemory 33 = .ok (.if_icmp .gt 25, 3) := by decide +kernel
theorem d_C_isRecordInMemory_36 : decode b_C_isRecordInMemory 36 = .ok (.iload_n 3, 1) := by decide +kernel
theorem d_C_isRecordInMemory_37 : decode b_C_isRecordInMemory 37 = .ok (.bipush 60, 2) := by decide +kernel
theorem d_C_isRecordInMemory_39 : decode b_C_isRecordInMemory 39 = .ok (.if_icmp .gt 19, 3) := by decide +kernel
theorem d_C_isRecordInMemory_42 : decode b_C_isRecordInMemory 42 = .ok (.iload_n 1, 1) := by decide +kernel
theorem d_C_isRecordInMemory_43 : decode b_C_isRecordInMemory 43 = .ok (.iconst 2, 1) := by decide +kernel
theorem d_C_isRecordInMemory_44 : decode b_C_isRecordInMemory 44 = .ok (.iload_n 2, 1) := by decide +kernel
theorem d_C_isRecordInMemory_45 : decode b_C_isRecordInMemory 45 = .ok (.iadd, 1) := by decide +kernel
theorem d_C_isRecordInMemory_46 : decode b_C_isRecordInMemory 46 = .ok (.iload_n 3, 1) := by decide +kernel
theorem d_C_isRecordInMemory_47 : decode b_C_isRecordInMemory 47 = .ok (.iadd, 1) := by decide +kernel
theorem d_C_isRecordInMemory_48 : decode b_C_isRecordInMemory 48 = .ok (.invokestatic 92, 3) := by decide +kernel
theorem d_C_isRecordInMemory_51 : decode b_C_isRecordInMemory 51 = .ok (.ifCond .eq 7, 3) := by decide +kernel
theorem d_C_isRecordInMemory_54 : decode b_C_isRecordInMemory 54 = .ok (.iconst 1, 1) := by decide +kernel
theorem d_C_isRecordInMemory_55 : decode b_C_isRecordInMemory 55 = .ok (.goto 4, 3) := by decide +kernel
theorem d_C_isRecordInMemory_58 : decode b_C_isRecordInMemory 58 = .ok (.iconst 0, 1) := by decide +kernel
theorem d_C_isRecordInMemory_59 : decode b_C_isRecordInMemory 59 = .ok (.ireturn, 1) := by decide +kernel
theorem d_C_perform_0 : decode b_C_perform 0 = .ok (.aload_n 0, 1) := by decide +kernel
theorem d_C_perform_1 : decode b_C_perform 1 = .ok (.getfield 9, 3) := by decide +kernel
theorem d_C_perform_4 : decode b_C_perform 4 = .ok (.getfield 86, 3) := by decide +kernel
theorem d_C_perform_7 : decode b_C_perform 7 = .ok (.iload_n 1, 1) := by decide +kernel
theorem d_C_perform_8 : decode b_C_perform 8 = .ok (.iaload, 1) := by decide +kernel
theorem d_C_perform_9 : decode b_C_perform 9 = .ok (.istore_n 2, 1) := by decide +kernel
theorem d_C_perform_10 : decode b_C_perform 10 = .ok (.aload_n 0, 1) := by decide +kernel
theorem d_C_perform_11 : decode b_C_perform 11 = .ok (.getfield 9, 3) := by decide +kernel
theorem d_C_perform_14 : decode b_C_perform 14 = .ok (.getfield 89, 3) := by decide +kernel
theorem d_C_perform_17 : decode b_C_perform 17 = .ok (.iload_n 1, 1) := by decide +kernel
theorem d_C_perform_18 : decode b_C_perform 18 = .ok (.iaload, 1) := by decide +kernel
theorem d_C_perform_19 : decode b_C_perform 19 = .ok (.istore_n 3, 1) := by decide +kernel
theorem d_C_perform_20 : decode b_C_perform 20 = .ok (.aload_n 0, 1) := by decide +kernel
theorem d_C_perform_21 : decode b_C_perform 21 = .ok (.getfield 9, 3) := by decide +kernel
theorem d_C_perform_24 : decode b_C_perform 24 = .ok (.getfield 78, 3) := by decide +kernel
theorem d_C_perform_27 : decode b_C_perform 27 = .ok (.iload_n 1, 1) := by decide +kernel
theorem d_C_perform_28 : decode b_C_perform 28 = .ok (.iaload, 1) := by decide +kernel
theorem d_C_perform_29 : decode b_C_perform 29 = .ok (.tableswitch 134 0 10 #[59, 65, 71, 79, 87, 94, 100, 108, 116, 123, 129], 59) := by decide +kernel
theorem d_C_perform_88 : decode b_C_perform 88 = .ok (.aload_n 0, 1) := by decide +kernel
theorem d_C_perform_89 : decode b_C_perform 89 = .ok (.iload_n 2, 1) := by decide +kernel
theorem d_C_perform_90 : decode b_C_perform 90 = .ok (.invokevirtual 104, 3) := by decide +kernel
theorem d_C_perform_93 : decode b_C_perform 93 = .ok (.ireturn, 1) := by decide +kernel
theorem d_C_perform_94 : decode b_C_perform 94 = .ok (.aload_n 0, 1) := by decide +kernel
theorem d_C_perform_95 : decode b_C_perform 95 = .ok (.iload_n 2, 1) := by decide +kernel
theorem d_C_perform_96 : decode b_C_perform 96 = .ok (.invokevirtual 107, 3) := by decide +kernel
theorem d_C_perform_99 : decode b_C_perform 99 = .ok (.ireturn, 1) := by decide +kernel
theorem d_C_perform_100 : decode b_C_perform 100 = .ok (.aload_n 0, 1) := by decide +kernel
theorem d_C_perform_101 : decode b_C_perform 101 = .ok (.iload_n 2, 1) := by decide +kernel
theorem d_C_perform_102 : decode b_C_perform 102 = .ok (.iload_n 3, 1) := by decide +kernel
theorem d_C_perform_103 : decode b_C_perform 103 = .ok (.iconst 0, 1) := by decide +kernel
theorem d_C_perform_104 : decode b_C_perform 104 = .ok (.invokevirtual 110, 3) := by decide +kernel
theorem d_C_perform_107 : decode b_C_perform 107 = .ok (.ireturn, 1) := by decide +kernel
theorem d_C_perform_108 : decode b_C_perform 108 = .ok (.aload_n 0, 1) := by decide +kernel
theorem d_C_perform_109 : decode b_C_perform 109 = .ok (.iload_n 2, 1) := by decide +kernel
theorem d_C_perform_110 : decode b_C_perform 110 = .ok (.iload_n 3, 1) := by decide +kernel
theorem d_C_perform_111 : decode b_C_perform 111 = .ok (.iconst 1, 1) := by decide +kernel
theorem d_C_perform_112 : decode b_C_perform 112 = .ok (.invokevirtual 110, 3) := by decide +kernel
theorem d_C_perform_115 : decode b_C_perform 115 = .ok (.ireturn, 1) := by decide +kernel
theorem d_C_perform_116 : decode b_C_perform 116 = .ok (.aload_n 0, 1) := by decide +kernel
theorem d_C_perform_117 : decode b_C_perform 117 = .ok (.iload_n 2, 1) := by decide +kernel
theorem d_C_perform_118 : decode b_C_perform 118 = .ok (.putfield 36, 3) := by decide +kernel
theorem d_C_perform_121 : decode b_C_perform 121 = .ok (.iconst 0, 1) := by decide +kernel
theorem d_C_perform_122 : decode b_C_perform 122 = .ok (.ireturn, 1) := by decide +kernel
theorem d_C_perform_123 : decode b_C_perform 123 = .ok (.aload_n 0, 1) := by decide +kernel
theorem d_C_perform_124 : decode b_C_perform 124 = .ok (.iload_n 2, 1) := by decide +kernel
theorem d_C_perform_125 : decode b_C_perform 125 = .ok (.invokevirtual 114, 3) := by decide +kernel
theorem d_C_perform_128 : decode b_C_perform 128 = .ok (.ireturn, 1) := by decide +kernel
theorem d_C_perform_129 : decode b_C_perform 129 = .ok (.aload_n 0, 1) := by decide +kernel
theorem d_C_perform_130 : decode b_C_perform 130 = .ok (.iconst 2, 1) := by decide +kernel
theorem d_C_perform_131 : decode b_C_perform 131 = .ok (.iload_n 2, 1) := by decide +kernel
theorem d_C_perform_132 : decode b_C_perform 132 = .ok (.iload_n 3, 1) := by decide +kernel
theorem d_C_perform_133 : decode b_C_perform 133 = .ok (.invokevirtual 117, 3) := by decide +kernel
theorem d_C_perform_136 : decode b_C_perform 136 = .ok (.ireturn, 1) := by decide +kernel
theorem d_C_perform_137 : decode b_C_perform 137 = .ok (.aload_n 0, 1) := by decide +kernel
theorem d_C_perform_138 : decode b_C_perform 138 = .ok (.iconst 3, 1) := by decide +kernel
theorem d_C_perform_139 : decode b_C_perform 139 = .ok (.iload_n 2, 1) := by decide +kernel
theorem d_C_perform_140 : decode b_C_perform 140 = .ok (.iload_n 3, 1) := by decide +kernel
theorem d_C_perform_141 : decode b_C_perform 141 = .ok (.invokevirtual 117, 3) := by decide +kernel
theorem d_C_perform_144 : decode b_C_perform 144 = .ok (.ireturn, 1) := by decide +kernel
theorem d_C_perform_145 : decode b_C_perform 145 = .ok (.aload_n 0, 1) := by decide +kernel
theorem d_C_perform_146 : decode b_C_perform 146 = .ok (.iload_n 2, 1) := by decide +kernel
theorem d_C_perform_147 : decode b_C_perform 147 = .ok (.iload_n 3, 1) := by decide +kernel
theorem d_C_perform_148 : decode b_C_perform 148 = .ok (.invokevirtual 121, 3) := by decide +kernel
theorem d_C_perform_151 : decode b_C_perform 151 = .ok (.ireturn, 1) := by decide +kernel
theorem d_C_perform_152 : decode b_C_perform 152 = .ok (.aload_n 0, 1) := by decide +kernel
theorem d_C_perform_153 : decode b_C_perform 153 = .ok (.iload_n 2, 1) := by decide +kernel
theorem d_C_perform_154 : decode b_C_perform 154 = .ok (.invokevirtual 125, 3) := by decide +kernel
theorem d_C_perform_157 : decode b_C_perform 157 = .ok (.ireturn, 1) := by decide +kernel
theorem d_C_perform_158 : decode b_C_perform 158 = .ok (.aload_n 0, 1) := by decide +kernel
theorem d_C_perform_159 : decode b_C_perform 159 = .ok (.invokevirtual 128, 3) := by decide +kernel
theorem d_C_perform_162 : decode b_C_perform 162 = .ok (.ireturn, 1) := by decide +kernel
theorem d_C_perform_163 : decode b_C_perform 163 = .ok (.aload_n 0, 1) := by decide +kernel
theorem d_C_perform_164 : decode b_C_perform 164 = .ok (.iload_n 3, 1) := by decide +kernel
theorem d_C_perform_165 : decode b_C_perform 165 = .ok (.invokevirtual 132, 3) := by decide +kernel
theorem d_C_perform_168 : decode b_C_perform 168 = .ok (.ireturn, 1) := by decide +kernel
theorem d_C_seek_0 : decode b_C_seek 0 = .ok (.aload_n 0, 1) := by decide +kernel
theorem d_C_seek_1 : decode b_C_seek 1 = .ok (.getfield 15, 3) := by decide +kernel
theorem d_C_seek_4 : decode b_C_seek 4 = .ok (.iload_n 1, 1) := by decide +kernel
theorem d_C_seek_5 : decode b_C_seek 5 = .ok (.invokevirtual 135, 3) := by decide +kernel
theorem d_C_seek_8 : decode b_C_seek 8 = .ok (.aload_n 0, 1) := by decide +kernel
theorem d_C_seek_9 : decode b_C_seek 9 = .ok (.aload_n 0, 1) := by decide +kernel
theorem d_C_seek_10 : decode b_C_seek 10 = .ok (.getfield 15, 3) := by decide +kernel
theorem d_C_seek_13 : decode b_C_seek 13 = .ok (.invokevirtual 23, 3) := by decide +kernel
theorem d_C_seek_16 : decode b_C_seek 16 = .ok (.putfield 71, 3) := by decide +kernel
theorem d_C_seek_19 : decode b_C_seek 19 = .ok (.iconst 0, 1) := by decide +kernel
theorem d_C_seek_20 : decode b_C_seek 20 = .ok (.ireturn, 1) := by decide +kernel
theorem d_C_searchNumber_0 : decode b_C_searchNumber 0 = .ok (.aload_n 0, 1) := by decide +kernel
theorem d_C_searchNumber_1 : decode b_C_searchNumber 1 = .ok (.getfield 15, 3) := by decide +kernel
theorem d_C_searchNumber_4 : decode b_C_searchNumber 4 = .ok (.iconst 1, 1) := by decide +kernel
theorem d_C_searchNumber_5 : decode b_C_searchNumber 5 = .ok (.invokevirtual 138, 3) := by decide +kernel
theorem d_C_searchNumber_8 : decode b_C_searchNumber 8 = .ok (.ifCond .ne 5, 3) := by decide +kernel
theorem d_C_searchNumber_11 : decode b_C_searchNumber 11 = .ok (.iconst 1, 1) := by decide +kernel
theorem d_C_searchNumber_12 : decode b_C_searchNumber 12 = .ok (.ireturn, 1) := by decide +kernel
theorem d_C_searchNumber_13 : decode b_C_searchNumber 13 = .ok (.aload_n 0, 1) := by decide +kernel
theorem d_C_searchNumber_14 : decode b_C_searchNumber 14 = .ok (.aload_n 0, 1) := by decide +kernel
theorem d_C_searchNumber_15 : decode b_C_searchNumber 15 = .ok (.getfield 15, 3) := by decide +kernel
theorem d_C_searchNumber_18 : decode b_C_searchNumber 18 = .ok (.getfield 141, 3) := by decide +kernel
theorem d_C_searchNumber_21 : decode b_C_searchNumber 21 = .ok (.iload_n 1, 1) := by decide +kernel
theorem d_C_searchNumber_22 : decode b_C_searchNumber 22 = .ok (.if_icmp .ne 7, 3) := by decide +kernel
theorem d_C_searchNumber_25 : decode b_C_searchNumber 25 = .ok (.iconst 1, 1) := by decide +kernel
theorem d_C_searchNumber_26 : decode b_C_searchNumber 26 = .ok (.goto 4, 3) := by decide +kernel
theorem d_C_searchNumber_29 : decode b_C_searchNumber 29 = .ok (.iconst 0, 1) := by decide +kernel
theorem d_C_searchNumber_30 : decode b_C_searchNumber 30 = .ok (.invokevirtual 144, 3) := by decide +kernel
theorem d_C_searchNumber_33 : decode b_C_searchNumber 33 = .ok (.aload_n 0, 1) := by decide +kernel
theorem d_C_searchNumber_34 : decode b_C_searchNumber 34 = .ok (.invokevirtual 148, 3) := by decide +kernel
theorem d_C_searchNumber_37 : decode b_C_searchNumber 37 = .ok (.ireturn, 1) := by decide +kernel
theorem d_C_searchKey_0 : decode b_C_searchKey 0 = .ok (.aload_n 0, 1) := by decide +kernel
theorem d_C_searchKey_1 : decode b_C_searchKey 1 = .ok (.getfield 15, 3) := by decide +kernel
theorem d_C_searchKey_4 : decode b_C_searchKey 4 = .ok (.iconst 2, 1) := by decide +kernel
theorem d_C_searchKey_5 : decode b_C_searchKey 5 = .ok (.invokevirtual 138, 3) := by decide +kernel
theorem d_C_searchKey_8 : decode b_C_searchKey 8 = .ok (.ifCond .ne 5, 3) := by decide +kernel
theorem d_C_searchKey_11 : decode b_C_searchKey 11 = .ok (.iconst 1, 1) := by decide +kernel
theorem d_C_searchKey_12 : decode b_C_searchKey 12 = .ok (.ireturn, 1) := by decide +kernel
theorem d_C_searchKey_13 : decode b_C_searchKey 13 = .ok (.aload_n 0, 1) := by decide +kernel
theorem d_C_searchKey_14 : decode b_C_searchKey 14 = .ok (.getfield 15, 3) := by decide +kernel
theorem d_C_searchKey_17 : decode b_C_searchKey 17 = .ok (.invokevirtual 151, 3) := by decide +kernel
theorem d_C_searchKey_20 : decode b_C_searchKey 20 = .ok (.aload_n 0, 1) := by decide +kernel
theorem d_C_searchKey_21 : decode b_C_searchKey 21 = .ok (.getfield 15, 3) := by decide +kernel
theorem d_C_searchKey_24 : decode b_C_searchKey 24 = .ok (.getfield 141, 3) := by decide +kernel
theorem d_C_searchKey_27 : decode b_C_searchKey 27 = .ok (.aload_n 0, 1) := by decide +kernel
theorem d_C_searchKey_28 : decode b_C_searchKey 28 = .ok (.getfield 19, 3) := by decide +kernel
theorem d_C_searchKey_31 : decode b_C_searchKey 31 = .ok (.iload_n 1, 1) := by decide +kernel
theorem d_C_searchKey_32 : decode b_C_searchKey 32 = .ok (.iload_n 2, 1) := by decide +kernel
theorem d_C_searchKey_33 : decode b_C_searchKey 33 = .ok (.invokevirtual 155, 3) := by decide +kernel
theorem d_C_searchKey_36 : decode b_C_searchKey 36 = .ok (.istore 4, 2) := by decide +kernel
theorem d_C_searchKey_38 : decode b_C_searchKey 38 = .ok (.aload_n 0, 1) := by decide +kernel
theorem d_C_searchKey_39 : decode b_C_searchKey 39 = .ok (.iload 4, 2) := by decide +kernel
theorem d_C_searchKey_41 : decode b_C_searchKey 41 = .ok (.ifCond .eq 12, 3) := by decide +kernel
theorem d_C_searchKey_44 : decode b_C_searchKey 44 = .ok (.iload_n 3, 1) := by decide +kernel
theorem d_C_searchKey_45 : decode b_C_searchKey 45 = .ok (.ifCond .eq 12, 3) := by decide +kernel
theorem d_C_searchKey_48 : decode b_C_searchKey 48 = .ok (.iload 4, 2) := by decide +kernel
theorem d_C_searchKey_50 : decode b_C_searchKey 50 = .ok (.ifCond .le 7, 3) := by decide +kernel
theorem d_C_searchKey_53 : decode b_C_searchKey 53 = .ok (.iconst 1, 1) := by decide +kernel
theorem d_C_searchKey_54 : decode b_C_searchKey 54 = .ok (.goto 4, 3) := by decide +kernel
theorem d_C_searchKey_57 : decode b_C_searchKey 57 = .ok (.iconst 0, 1) := by decide +kernel
theorem d_C_searchKey_58 : decode b_C_searchKey 58 = .ok (.invokevirtual 144, 3) := by decide +kernel
theorem d_C_searchKey_61 : decode b_C_searchKey 61 = .ok (.aload_n 0, 1) := by decide +kernel
theorem d_C_searchKey_62 : decode b_C_searchKey 62 = .ok (.invokevirtual 148, 3) := by decide +kernel
theorem d_C_searchKey_65 : decode b_C_searchKey 65 = .ok (.ireturn, 1) := by decide +kernel
theorem d_C_passOverNextIf_0 : decode b_C_passOverNextIf 0 = .ok (.iload_n 1, 1) := by decide +kernel
theorem d_C_passOverNextIf_1 : decode b_C_passOverNextIf 1 = .ok (.ifCond .eq 13, 3) := by decide +kernel
theorem d_C_passOverNextIf_4 : decode b_C_passOverNextIf 4 = .ok (.aload_n 0, 1) := by decide +kernel
theorem d_C_passOverNextIf_5 : decode b_C_passOverNextIf 5 = .ok (.dup, 1) := by decide +kernel
theorem d_C_passOverNextIf_6 : decode b_C_passOverNextIf 6 = .ok (.getfield 36, 3) := by decide +kernel
theorem d_C_passOverNextIf_9 : decode b_C_passOverNextIf 9 = .ok (.iconst 1, 1) := by decide +kernel
theorem d_C_passOverNextIf_10 : decode b_C_passOverNextIf 10 = .ok (.iadd, 1) := by decide +kernel
theorem d_C_passOverNextIf_11 : decode b_C_passOverNextIf 11 = .ok (.putfield 36, 3) := by decide +kernel
theorem d_C_passOverNextIf_14 : decode b_C_passOverNextIf 14 = .ok (.return_, 1) := by decide +kernel
theorem d_C_statusOfIndex_0 : decode b_C_statusOfIndex 0 = .ok (.aload_n 0, 1) := by decide +kernel
theorem d_C_statusOfIndex_1 : decode b_C_statusOfIndex 1 = .ok (.getfield 15, 3) := by decide +kernel
theorem d_C_statusOfIndex_4 : decode b_C_statusOfIndex 4 = .ok (.invokevirtual 23, 3) := by decide +kernel
theorem d_C_statusOfIndex_7 : decode b_C_statusOfIndex 7 = .ok (.aload_n 0, 1) := by decide +kernel
theorem d_C_statusOfIndex_8 : decode b_C_statusOfIndex 8 = .ok (.getfield 71, 3) := by decide +kernel
theorem d_C_statusOfIndex_11 : decode b_C_statusOfIndex 11 = .ok (.lsub, 1) := by decide +kernel
theorem d_C_statusOfIndex_12 : decode b_C_statusOfIndex 12 = .ok (.ldc2_w 161, 3) := by decide +kernel
theorem d_C_statusOfIndex_15 : decode b_C_statusOfIndex 15 = .ok (.lcmp, 1) := by decide +kernel
theorem d_C_statusOfIndex_16 : decode b_C_statusOfIndex 16 = .ok (.ifCond .lt 7, 3) := by decide +kernel
theorem d_C_statusOfIndex_19 : decode b_C_statusOfIndex 19 = .ok (.iconst 1, 1) := by decide +kernel
theorem d_C_statusOfIndex_20 : decode b_C_statusOfIndex 20 = .ok (.goto 4, 3) := by decide +kernel
theorem d_C_statusOfIndex_23 : decode b_C_statusOfIndex 23 = .ok (.iconst 0, 1) := by decide +kernel
theorem d_C_statusOfIndex_24 : decode b_C_statusOfIndex 24 = .ok (.ireturn, 1) := by decide +kernel
theorem d_C_readCount_0 : decode b_C_readCount 0 = .ok (.aload_n 0, 1) := by decide +kernel
theorem d_C_readCount_1 : decode b_C_readCount 1 = .ok (.getfield 15, 3) := by decide +kernel
theorem d_C_readCount_4 : decode b_C_readCount 4 = .ok (.iconst 1, 1) := by decide +kernel
theorem d_C_readCount_5 : decode b_C_readCount 5 = .ok (.invokevirtual 138, 3) := by decide +kernel
theorem d_C_readCount_8 : decode b_C_readCount 8 = .ok (.ifCond .ne 5, 3) := by decide +kernel
theorem d_C_readCount_11 : decode b_C_readCount 11 = .ok (.iconst 1, 1) := by decide +kernel
theorem d_C_readCount_12 : decode b_C_readCount 12 = .ok (.ireturn, 1) := by decide +kernel
theorem d_C_readCount_13 : decode b_C_readCount 13 = .ok (.aload_n 0, 1) := by decide +kernel
theorem d_C_readCount_14 : decode b_C_readCount 14 = .ok (.getfield 19, 3) := by decide +kernel
theorem d_C_readCount_17 : decode b_C_readCount 17 = .ok (.iload_n 1, 1) := by decide +kernel
theorem d_C_readCount_18 : decode b_C_readCount 18 = .ok (.aload_n 0, 1) := by decide +kernel
theorem d_C_readCount_19 : decode b_C_readCount 19 = .ok (.getfield 15, 3) := by decide +kernel
theorem d_C_readCount_22 : decode b_C_readCount 22 = .ok (.getfield 163, 3) := by decide +kernel
theorem d_C_readCount_25 : decode b_C_readCount 25 = .ok (.invokevirtual 166, 3) := by decide +kernel
theorem d_C_readCount_28 : decode b_C_readCount 28 = .ok (.aload_n 0, 1) := by decide +kernel
theorem d_C_readCount_29 : decode b_C_readCount 29 = .ok (.getfield 19, 3) := by decide +kernel
theorem d_C_readCount_32 : decode b_C_readCount 32 = .ok (.iload_n 1, 1) := by decide +kernel
theorem d_C_readCount_33 : decode b_C_readCount 33 = .ok (.iconst 1, 1) := by decide +kernel
theorem d_C_readCount_34 : decode b_C_readCount 34 = .ok (.iadd, 1) := by decide +kernel
theorem d_C_readCount_35 : decode b_C_readCount 35 = .ok (.aload_n 0, 1) := by decide +kernel
theorem d_C_readCount_36 : decode b_C_readCount 36 = .ok (.getfield 15, 3) := by decide +kernel
theorem d_C_readCount_39 : decode b_C_readCount 39 = .ok (.getfield 141, 3) := by decide +kernel
theorem d_C_readCount_42 : decode b_C_readCount 42 = .ok (.invokevirtual 166, 3) := by decide +kernel
theorem d_C_readCount_45 : decode b_C_readCount 45 = .ok (.aload_n 0, 1) := by decide +kernel
theorem d_C_readCount_46 : decode b_C_readCount 46 = .ok (.getfield 19, 3) := by decide +kernel
theorem d_C_readCount_49 : decode b_C_readCount 49 = .ok (.iload_n 1, 1) := by decide +kernel
theorem d_C_readCount_50 : decode b_C_readCount 50 = .ok (.iconst 2, 1) := by decide +kernel
theorem d_C_readCount_51 : decode b_C_readCount 51 = .ok (.iadd, 1) := by decide +kernel
theorem d_C_readCount_52 : decode b_C_readCount 52 = .ok (.aload_n 0, 1) := by decide +kernel
theorem d_C_readCount_53 : decode b_C_readCount 53 = .ok (.getfield 15, 3) := by decide +kernel
theorem d_C_readCount_56 : decode b_C_readCount 56 = .ok (.invokevirtual 151, 3) := by decide +kernel
theorem d_C_readCount_59 : decode b_C_readCount 59 = .ok (.aload_n 0, 1) := by decide +kernel
theorem d_C_readCount_60 : decode b_C_readCount 60 = .ok (.getfield 15, 3) := by decide +kernel
theorem d_C_readCount_63 : decode b_C_readCount 63 = .ok (.getfield 141, 3) := by decide +kernel
theorem d_C_readCount_66 : decode b_C_readCount 66 = .ok (.invokevirtual 170, 3) := by decide +kernel
theorem d_C_readCount_69 : decode b_C_readCount 69 = .ok (.invokevirtual 166, 3) := by decide +kernel
theorem d_C_readCount_72 : decode b_C_readCount 72 = .ok (.aload_n 0, 1) := by decide +kernel
theorem d_C_readCount_73 : decode b_C_readCount 73 = .ok (.getfield 19, 3) := by decide +kernel
theorem d_C_readCount_76 : decode b_C_readCount 76 = .ok (.iload_n 1, 1) := by decide +kernel
theorem d_C_readCount_77 : decode b_C_readCount 77 = .ok (.iconst 3, 1) := by decide +kernel
theorem d_C_readCount_78 : decode b_C_readCount 78 = .ok (.iadd, 1) := by decide +kernel
theorem d_C_readCount_79 : decode b_C_readCount 79 = .ok (.aload_n 0, 1) := by decide +kernel
theorem d_C_readCount_80 : decode b_C_readCount 80 = .ok (.getfield 15, 3) := by decide +kernel
theorem d_C_readCount_83 : decode b_C_readCount 83 = .ok (.invokevirtual 151, 3) := by decide +kernel
theorem d_C_readCount_86 : decode b_C_readCount 86 = .ok (.aload_n 0, 1) := by decide +kernel
theorem d_C_readCount_87 : decode b_C_readCount 87 = .ok (.getfield 15, 3) := by decide +kernel
theorem d_C_readCount_90 : decode b_C_readCount 90 = .ok (.getfield 141, 3) := by decide +kernel
theorem d_C_readCount_93 : decode b_C_readCount 93 = .ok (.invokevirtual 173, 3) := by decide +kernel
theorem d_C_readCount_96 : decode b_C_readCount 96 = .ok (.invokevirtual 166, 3) := by decide +kernel
theorem d_C_readCount_99 : decode b_C_readCount 99 = .ok (.aload_n 0, 1) := by decide +kernel
theorem d_C_readCount_100 : decode b_C_readCount 100 = .ok (.invokevirtual 148, 3) := by decide +kernel
theorem d_C_readCount_103 : decode b_C_readCount 103 = .ok (.ireturn, 1) := by decide +kernel
theorem d_C_readPart_0 : decode b_C_readPart 0 = .ok (.aload_n 0, 1) := by decide +kernel
theorem d_C_readPart_1 : decode b_C_readPart 1 = .ok (.getfield 15, 3) := by decide +kernel
theorem d_C_readPart_4 : decode b_C_readPart 4 = .ok (.iload_n 1, 1) := by decide +kernel
theorem d_C_readPart_5 : decode b_C_readPart 5 = .ok (.invokevirtual 176, 3) := by decide +kernel
theorem d_C_readPart_8 : decode b_C_readPart 8 = .ok (.ifCond .ne 5, 3) := by decide +kernel
theorem d_C_readPart_11 : decode b_C_readPart 11 = .ok (.iconst 1, 1) := by decide +kernel
theorem d_C_readPart_12 : decode b_C_readPart 12 = .ok (.ireturn, 1) := by decide +kernel
theorem d_C_readPart_13 : decode b_C_readPart 13 = .ok (.aload_n 0, 1) := by decide +kernel
theorem d_C_readPart_14 : decode b_C_readPart 14 = .ok (.dup, 1) := by decide +kernel
theorem d_C_readPart_15 : decode b_C_readPart 15 = .ok (.getfield 179, 3) := by decide +kernel
theorem d_C_readPart_18 : decode b_C_readPart 18 = .ok (.iconst 1, 1) := by decide +kernel
theorem d_C_readPart_19 : decode b_C_readPart 19 = .ok (.iadd, 1) := by decide +kernel
theorem d_C_readPart_20 : decode b_C_readPart 20 = .ok (.putfield 179, 3) := by decide +kernel
theorem d_C_readPart_23 : decode b_C_readPart 23 = .ok (.aload_n 0, 1) := by decide +kernel
theorem d_C_readPart_24 : decode b_C_readPart 24 = .ok (.getfield 15, 3) := by decide +kernel
theorem d_C_readPart_27 : decode b_C_readPart 27 = .ok (.invokevirtual 151, 3) := by decide +kernel
theorem d_C_readPart_30 : decode b_C_readPart 30 = .ok (.astore 4, 2) := by decide +kernel
theorem d_C_readPart_32 : decode b_C_readPart 32 = .ok (.iload_n 1, 1) := by decide +kernel
theorem d_C_readPart_33 : decode b_C_readPart 33 = .ok (.iconst 3, 1) := by decide +kernel
theorem d_C_readPart_34 : decode b_C_readPart 34 = .ok (.if_icmp .ne 25, 3) := by decide +kernel
theorem d_C_readPart_37 : decode b_C_readPart 37 = .ok (.aload 4, 2) := by decide +kernel
theorem d_C_readPart_39 : decode b_C_readPart 39 = .ok (.aload_n 0, 1) := by decide +kernel
theorem d_C_readPart_40 : decode b_C_readPart 40 = .ok (.getfield 15, 3) := by decide +kernel
theorem d_C_readPart_43 : decode b_C_readPart 43 = .ok (.getfield 141, 3) := by decide +kernel
theorem d_C_readPart_46 : decode b_C_readPart 46 = .ok (.invokevirtual 182, 3) := by decide +kernel
theorem d_C_readPart_49 : decode b_C_readPart 49 = .ok (.ifCond .eq 10, 3) := by decide +kernel
theorem d_C_readPart_52 : decode b_C_readPart 52 = .ok (.aload_n 0, 1) := by decide +kernel
theorem d_C_readPart_53 : decode b_C_readPart 53 = .ok (.iload_n 3, 1) := by decide +kernel
theorem d_C_readPart_54 : decode b_C_readPart 54 = .ok (.putfield 62, 3) := by decide +kernel
theorem d_C_readPart_57 : decode b_C_readPart 57 = .ok (.iconst 4, 1) := by decide +kernel
theorem d_C_readPart_58 : decode b_C_readPart 58 = .ok (.ireturn, 1) := by decide +kernel
theorem d_C_readPart_59 : decode b_C_readPart 59 = .ok (.iload_n 1, 1) := by decide +kernel
theorem d_C_readPart_60 : decode b_C_readPart 60 = .ok (.iconst 2, 1) := by decide +kernel
theorem d_C_readPart_61 : decode b_C_readPart 61 = .ok (.if_icmp .ne 18, 3) := by decide +kernel
theorem d_C_readPart_64 : decode b_C_readPart 64 = .ok (.aload 4, 2) := by decide +kernel
theorem d_C_readPart_66 : decode b_C_readPart 66 = .ok (.aload_n 0, 1) := by decide +kernel
theorem d_C_readPart_67 : decode b_C_readPart 67 = .ok (.getfield 15, 3) := by decide +kernel
theorem d_C_readPart_70 : decode b_C_readPart 70 = .ok (.getfield 141, 3) := by decide +kernel
theorem d_C_readPart_73 : decode b_C_readPart 73 = .ok (.invokevirtual 170, 3) := by decide +kernel
theorem d_C_readPart_76 : decode b_C_readPart 76 = .ok (.goto 15, 3) := by decide +kernel
theorem d_C_readPart_79 : decode b_C_readPart 79 = .ok (.aload 4, 2) := by decide +kernel
theorem d_C_readPart_81 : decode b_C_readPart 81 = .ok (.aload_n 0, 1) := by decide +kernel
theorem d_C_readPart_82 : decode b_C_readPart 82 = .ok (.getfield 15, 3) := by decide +kernel
theorem d_C_readPart_85 : decode b_C_readPart 85 = .ok (.getfield 141, 3) := by decide +kernel
theorem d_C_readPart_88 : decode b_C_readPart 88 = .ok (.invokevirtual 173, 3) := by decide +kernel
theorem d_C_readPart_91 : decode b_C_readPart 91 = .ok (.istore 5, 2) := by decide +kernel
theorem d_C_readPart_93 : decode b_C_readPart 93 = .ok (.aload_n 0, 1) := by decide +kernel
theorem d_C_readPart_94 : decode b_C_readPart 94 = .ok (.iload_n 3, 1) := by decide +kernel
theorem d_C_readPart_95 : decode b_C_readPart 95 = .ok (.iload 5, 2) := by decide +kernel
theorem d_C_readPart_97 : decode b_C_readPart 97 = .ok (.isub, 1) := by decide +kernel
theorem d_C_readPart_98 : decode b_C_readPart 98 = .ok (.putfield 62, 3) := by decide +kernel
theorem d_C_readPart_101 : decode b_C_readPart 101 = .ok (.aload 4, 2) := by decide +kernel
theorem d_C_readPart_103 : decode b_C_readPart 103 = .ok (.aload_n 0, 1) := by decide +kernel
theorem d_C_readPart_104 : decode b_C_readPart 104 = .ok (.getfield 15, 3) := by decide +kernel
theorem d_C_readPart_107 : decode b_C_readPart 107 = .ok (.getfield 141, 3) := by decide +kernel
theorem d_C_readPart_110 : decode b_C_readPart 110 = .ok (.iload_n 1, 1) := by decide +kernel
theorem d_C_readPart_111 : decode b_C_readPart 111 = .ok (.aload_n 0, 1) := by decide +kernel
theorem d_C_readPart_112 : decode b_C_readPart 112 = .ok (.getfield 19, 3) := by decide +kernel
theorem d_C_readPart_115 : decode b_C_readPart 115 = .ok (.iload_n 2, 1) := by decide +kernel
theorem d_C_readPart_116 : decode b_C_readPart 116 = .ok (.iload_n 3, 1) := by decide +kernel
theorem d_C_readPart_117 : decode b_C_readPart 117 = .ok (.iload 5, 2) := by decide +kernel
theorem d_C_readPart_119 : decode b_C_readPart 119 = .ok (.invokestatic 185, 3) := by decide +kernel
theorem d_C_readPart_122 : decode b_C_readPart 122 = .ok (.invokevirtual 190, 3) := by decide +kernel
theorem d_C_readPart_125 : decode b_C_readPart 125 = .ok (.aload_n 0, 1) := by decide +kernel
theorem d_C_readPart_126 : decode b_C_readPart 126 = .ok (.getfield 62, 3) := by decide +kernel
theorem d_C_readPart_129 : decode b_C_readPart 129 = .ok (.ifCond .ge 7, 3) := by decide +kernel
theorem d_C_readPart_132 : decode b_C_readPart 132 = .ok (.iconst 3, 1) := by decide +kernel
theorem d_C_readPart_133 : decode b_C_readPart 133 = .ok (.goto 4, 3) := by decide +kernel
theorem d_C_readPart_136 : decode b_C_readPart 136 = .ok (.iconst 0, 1) := by decide +kernel
theorem d_C_readPart_137 : decode b_C_readPart 137 = .ok (.ireturn, 1) := by decide +kernel
theorem d_C_writeData_0 : decode b_C_writeData 0 = .ok (.aload_n 0, 1) := by decide +kernel
theorem d_C_writeData_1 : decode b_C_writeData 1 = .ok (.getfield 15, 3) := by decide +kernel
theorem d_C_writeData_4 : decode b_C_writeData 4 = .ok (.iconst 3, 1) := by decide +kernel
theorem d_C_writeData_5 : decode b_C_writeData 5 = .ok (.invokevirtual 176, 3) := by decide +kernel
theorem d_C_writeData_8 : decode b_C_writeData 8 = .ok (.ifCond .ne 5, 3) := by decide +kernel
theorem d_C_writeData_11 : decode b_C_writeData 11 = .ok (.iconst 1, 1) := by decide +kernel
theorem d_C_writeData_12 : decode b_C_writeData 12 = .ok (.ireturn, 1) := by decide +kernel
theorem d_C_writeData_13 : decode b_C_writeData 13 = .ok (.aload_n 0, 1) := by decide +kernel
theorem d_C_writeData_14 : decode b_C_writeData 14 = .ok (.dup, 1) := by decide +kernel
theorem d_C_writeData_15 : decode b_C_writeData 15 = .ok (.getfield 179, 3) := by decide +kernel
theorem d_C_writeData_18 : decode b_C_writeData 18 = .ok (.iconst 1, 1) := by decide +kernel
theorem d_C_writeData_19 : decode b_C_writeData 19 = .ok (.iadd, 1) := by decide +kernel
theorem d_C_writeData_20 : decode b_C_writeData 20 = .ok (.putfield 179, 3) := by decide +kernel
theorem d_C_writeData_23 : decode b_C_writeData 23 = .ok (.aload_n 0, 1) := by decide +kernel
theorem d_C_writeData_24 : decode b_C_writeData 24 = .ok (.getfield 15, 3) := by decide +kernel
theorem d_C_writeData_27 : decode b_C_writeData 27 = .ok (.invokevirtual 151, 3) := by decide +kernel
theorem d_C_writeData_30 : decode b_C_writeData 30 = .ok (.astore_n 3, 1) := by decide +kernel
theorem d_C_writeData_31 : decode b_C_writeData 31 = .ok (.aload_n 0, 1) := by decide +kernel
theorem d_C_writeData_32 : decode b_C_writeData 32 = .ok (.iload_n 2, 1) := by decide +kernel
theorem d_C_writeData_33 : decode b_C_writeData 33 = .ok (.aload_n 3, 1) := by decide +kernel
theorem d_C_writeData_34 : decode b_C_writeData 34 = .ok (.aload_n 0, 1) := by decide +kernel
theorem d_C_writeData_35 : decode b_C_writeData 35 = .ok (.getfield 15, 3) := by decide +kernel
theorem d_C_writeData_38 : decode b_C_writeData 38 = .ok (.getfield 141, 3) := by decide +kernel
theorem d_C_writeData_41 : decode b_C_writeData 41 = .ok (.invokevirtual 173, 3) := by decide +kernel
theorem d_C_writeData_44 : decode b_C_writeData 44 = .ok (.isub, 1) := by decide +kernel
theorem d_C_writeData_45 : decode b_C_writeData 45 = .ok (.putfield 62, 3) := by decide +kernel
theorem d_C_writeData_48 : decode b_C_writeData 48 = .ok (.aload_n 0, 1) := by decide +kernel
theorem d_C_writeData_49 : decode b_C_writeData 49 = .ok (.getfield 62, 3) := by decide +kernel
theorem d_C_writeData_52 : decode b_C_writeData 52 = .ok (.ifCond .eq 5, 3) := by decide +kernel
theorem d_C_writeData_55 : decode b_C_writeData 55 = .ok (.iconst 3, 1) := by decide +kernel
theorem d_C_writeData_56 : decode b_C_writeData 56 = .ok (.ireturn, 1) := by decide +kernel
theorem d_C_writeData_57 : decode b_C_writeData 57 = .ok (.aload_n 3, 1) := by decide +kernel
theorem d_C_writeData_58 : decode b_C_writeData 58 = .ok (.aload_n 0, 1) := by decide +kernel
theorem d_C_writeData_59 : decode b_C_writeData 59 = .ok (.getfield 15, 3) := by decide +kernel
theorem d_C_writeData_62 : decode b_C_writeData 62 = .ok (.getfield 141, 3) := by decide +kernel
theorem d_C_writeData_65 : decode b_C_writeData 65 = .ok (.aload_n 0, 1) := by decide +kernel
theorem d_C_writeData_66 : decode b_C_writeData 66 = .ok (.getfield 19, 3) := by decide +kernel
theorem d_C_writeData_69 : decode b_C_writeData 69 = .ok (.iload_n 1, 1) := by decide +kernel
theorem d_C_writeData_70 : decode b_C_writeData 70 = .ok (.invokevirtual 193, 3) := by decide +kernel
theorem d_C_writeData_73 : decode b_C_writeData 73 = .ok (.iconst 0, 1) := by decide +kernel
theorem d_C_writeData_74 : decode b_C_writeData 74 = .ok (.ireturn, 1) := by decide +kernel
theorem d_C_writeRecord_0 : decode b_C_writeRecord 0 = .ok (.aload_n 0, 1) := by decide +kernel
theorem d_C_writeRecord_1 : decode b_C_writeRecord 1 = .ok (.getfield 19, 3) := by decide +kernel
theorem d_C_writeRecord_4 : decode b_C_writeRecord 4 = .ok (.iload_n 1, 1) := by decide +kernel
theorem d_C_writeRecord_5 : decode b_C_writeRecord 5 = .ok (.invokevirtual 99, 3) := by decide +kernel
theorem d_C_writeRecord_8 : decode b_C_writeRecord 8 = .ok (.istore_n 2, 1) := by decide +kernel
theorem d_C_writeRecord_9 : decode b_C_writeRecord 9 = .ok (.aload_n 0, 1) := by decide +kernel
theorem d_C_writeRecord_10 : decode b_C_writeRecord 10 = .ok (.getfield 19, 3) := by decide +kernel
theorem d_C_writeRecord_13 : decode b_C_writeRecord 13 = .ok (.iload_n 1, 1) := by decide +kernel
theorem d_C_writeRecord_14 : decode b_C_writeRecord 14 = .ok (.iconst 1, 1) := by decide +kernel
theorem d_C_writeRecord_15 : decode b_C_writeRecord 15 = .ok (.iadd, 1) := by decide +kernel
theorem d_C_writeRecord_16 : decode b_C_writeRecord 16 = .ok (.invokevirtual 99, 3) := by decide +kernel
theorem d_C_writeRecord_19 : decode b_C_writeRecord 19 = .ok (.istore_n 3, 1) := by decide +kernel
theorem d_C_writeRecord_20 : decode b_C_writeRecord 20 = .ok (.aload_n 0, 1) := by decide +kernel
theorem d_C_writeRecord_21 : decode b_C_writeRecord 21 = .ok (.getfield 15, 3) := by decide +kernel
theorem d_C_writeRecord_24 : decode b_C_writeRecord 24 = .ok (.invokevirtual 151, 3) := by decide +kernel
theorem d_C_writeRecord_27 : decode b_C_writeRecord 27 = .ok (.astore 4, 2) := by decide +kernel
theorem d_C_writeRecord_29 : decode b_C_writeRecord 29 = .ok (.aload_n 0, 1) := by decide +kernel
theorem d_C_writeRecord_30 : decode b_C_writeRecord 30 = .ok (.getfield 15, 3) := by decide +kernel
theorem d_C_writeRecord_33 : decode b_C_writeRecord 33 = .ok (.invokevirtual 196, 3) := by decide +kernel
theorem d_C_writeRecord_36 : decode b_C_writeRecord 36 = .ok (.aload 4, 2) := by decide +kernel
theorem d_C_writeRecord_38 : decode b_C_writeRecord 38 = .ok (.aload_n 0, 1) := by decide +kernel
theorem d_C_writeRecord_39 : decode b_C_writeRecord 39 = .ok (.getfield 15, 3) := by decide +kernel
theorem d_C_writeRecord_42 : decode b_C_writeRecord 42 = .ok (.getfield 141, 3) := by decide +kernel
theorem d_C_writeRecord_45 : decode b_C_writeRecord 45 = .ok (.bipush 20, 2) := by decide +kernel
theorem d_C_writeRecord_47 : decode b_C_writeRecord 47 = .ok (.iload_n 2, 1) := by decide +kernel
theorem d_C_writeRecord_48 : decode b_C_writeRecord 48 = .ok (.iadd, 1) := by decide +kernel
theorem d_C_writeRecord_49 : decode b_C_writeRecord 49 = .ok (.iload_n 3, 1) := by decide +kernel
theorem d_C_writeRecord_50 : decode b_C_writeRecord 50 = .ok (.iadd, 1) := by decide +kernel
theorem d_C_writeRecord_51 : decode b_C_writeRecord 51 = .ok (.invokevirtual 199, 3) := by decide +kernel
theorem d_C_writeRecord_54 : decode b_C_writeRecord 54 = .ok (.ifCond .ne 5, 3) := by decide +kernel
theorem d_C_writeRecord_57 : decode b_C_writeRecord 57 = .ok (.iconst 5, 1) := by decide +kernel
theorem d_C_writeRecord_58 : decode b_C_writeRecord 58 = .ok (.ireturn, 1) := by decide +kernel
theorem d_C_writeRecord_59 : decode b_C_writeRecord 59 = .ok (.aload 4, 2) := by decide +kernel
theorem d_C_writeRecord_61 : decode b_C_writeRecord 61 = .ok (.aload_n 0, 1) := by decide +kernel
theorem d_C_writeRecord_62 : decode b_C_writeRecord 62 = .ok (.getfield 15, 3) := by decide +kernel
theorem d_C_writeRecord_65 : decode b_C_writeRecord 65 = .ok (.getfield 141, 3) := by decide +kernel
theorem d_C_writeRecord_68 : decode b_C_writeRecord 68 = .ok (.invokevirtual 202, 3) := by decide +kernel
theorem d_C_writeRecord_71 : decode b_C_writeRecord 71 = .ok (.aload 4, 2) := by decide +kernel
theorem d_C_writeRecord_73 : decode b_C_writeRecord 73 = .ok (.iload_n 2, 1) := by decide +kernel
theorem d_C_writeRecord_74 : decode b_C_writeRecord 74 = .ok (.iload_n 3, 1) := by decide +kernel
theorem d_C_writeRecord_75 : decode b_C_writeRecord 75 = .ok (.invokevirtual 205, 3) := by decide +kernel
theorem d_C_writeRecord_78 : decode b_C_writeRecord 78 = .ok (.istore 5, 2) := by decide +kernel
theorem d_C_writeRecord_80 : decode b_C_writeRecord 80 = .ok (.aload 4, 2) := by decide +kernel
theorem d_C_writeRecord_82 : decode b_C_writeRecord 82 = .ok (.iload 5, 2) := by decide +kernel
theorem d_C_writeRecord_84 : decode b_C_writeRecord 84 = .ok (.iconst 2, 1) := by decide +kernel
theorem d_C_writeRecord_85 : decode b_C_writeRecord 85 = .ok (.aload_n 0, 1) := by decide +kernel
theorem d_C_writeRecord_86 : decode b_C_writeRecord 86 = .ok (.getfield 19, 3) := by decide +kernel
theorem d_C_writeRecord_89 : decode b_C_writeRecord 89 = .ok (.iload_n 1, 1) := by decide +kernel
theorem d_C_writeRecord_90 : decode b_C_writeRecord 90 = .ok (.iconst 2, 1) := by decide +kernel
theorem d_C_writeRecord_91 : decode b_C_writeRecord 91 = .ok (.iadd, 1) := by decide +kernel
theorem d_C_writeRecord_92 : decode b_C_writeRecord 92 = .ok (.invokevirtual 208, 3) := by decide +kernel
theorem d_C_writeRecord_95 : decode b_C_writeRecord 95 = .ok (.aload 4, 2) := by decide +kernel
theorem d_C_writeRecord_97 : decode b_C_writeRecord 97 = .ok (.iload 5, 2) := by decide +kernel
theorem d_C_writeRecord_99 : decode b_C_writeRecord 99 = .ok (.aload_n 0, 1) := by decide +kernel
theorem d_C_writeRecord_100 : decode b_C_writeRecord 100 = .ok (.getfield 19, 3) := by decide +kernel
theorem d_C_writeRecord_103 : decode b_C_writeRecord 103 = .ok (.iload_n 1, 1) := by decide +kernel
theorem d_C_writeRecord_104 : decode b_C_writeRecord 104 = .ok (.iconst 2, 1) := by decide +kernel
theorem d_C_writeRecord_105 : decode b_C_writeRecord 105 = .ok (.iadd, 1) := by decide +kernel
theorem d_C_writeRecord_106 : decode b_C_writeRecord 106 = .ok (.iload_n 2, 1) := by decide +kernel
theorem d_C_writeRecord_107 : decode b_C_writeRecord 107 = .ok (.iadd, 1) := by decide +kernel
theorem d_C_writeRecord_108 : decode b_C_writeRecord 108 = .ok (.invokevirtual 193, 3) := by decide +kernel
theorem d_C_writeRecord_111 : decode b_C_writeRecord 111 = .ok (.aload_n 0, 1) := by decide +kernel
theorem d_C_writeRecord_112 : decode b_C_writeRecord 112 = .ok (.dup, 1) := by decide +kernel
theorem d_C_writeRecord_113 : decode b_C_writeRecord 113 = .ok (.getfield 179, 3) := by decide +kernel
theorem d_C_writeRecord_116 : decode b_C_writeRecord 116 = .ok (.iconst 1, 1) := by decide +kernel
theorem d_C_writeRecord_117 : decode b_C_writeRecord 117 = .ok (.iadd, 1) := by decide +kernel
theorem d_C_writeRecord_118 : decode b_C_writeRecord 118 = .ok (.putfield 179, 3) := by decide +kernel
theorem d_C_writeRecord_121 : decode b_C_writeRecord 121 = .ok (.aload_n 0, 1) := by decide +kernel
theorem d_C_writeRecord_122 : decode b_C_writeRecord 122 = .ok (.getfield 15, 3) := by decide +kernel
theorem d_C_writeRecord_125 : decode b_C_writeRecord 125 = .ok (.iload 5, 2) := by decide +kernel
theorem d_C_writeRecord_127 : decode b_C_writeRecord 127 = .ok (.invokevirtual 212, 3) := by decide +kernel
theorem d_C_writeRecord_130 : decode b_C_writeRecord 130 = .ok (.iconst 0, 1) := by decide +kernel
theorem d_C_writeRecord_131 : decode b_C_writeRecord 131 = .ok (.ireturn, 1) := by decide +kernel
theorem d_C_erase_0 : decode b_C_erase 0 = .ok (.aload_n 0, 1) := by decide +kernel
theorem d_C_erase_1 : decode b_C_erase 1 = .ok (.getfield 15, 3) := by decide +kernel
theorem d_C_erase_4 : decode b_C_erase 4 = .ok (.invokevirtual 196, 3) := by decide +kernel
theorem d_C_erase_7 : decode b_C_erase 7 = .ok (.aload_n 0, 1) := by decide +kernel
theorem d_C_erase_8 : decode b_C_erase 8 = .ok (.getfield 15, 3) := by decide +kernel
theorem d_C_erase_11 : decode b_C_erase 11 = .ok (.invokevirtual 151, 3) := by decide +kernel
theorem d_C_erase_14 : decode b_C_erase 14 = .ok (.aload_n 0, 1) := by decide +kernel
theorem d_C_erase_15 : decode b_C_erase 15 = .ok (.getfield 15, 3) := by decide +kernel
theorem d_C_erase_18 : decode b_C_erase 18 = .ok (.getfield 141, 3) := by decide +kernel
theorem d_C_erase_21 : decode b_C_erase 21 = .ok (.invokevirtual 202, 3) := by decide +kernel
theorem d_C_erase_24 : decode b_C_erase 24 = .ok (.aload_n 0, 1) := by decide +kernel
theorem d_C_erase_25 : decode b_C_erase 25 = .ok (.getfield 15, 3) := by decide +kernel
theorem d_C_erase_28 : decode b_C_erase 28 = .ok (.iconst 5, 1) := by decide +kernel
theorem d_C_erase_29 : decode b_C_erase 29 = .ok (.invokevirtual 215, 3) := by decide +kernel
theorem d_C_erase_32 : decode b_C_erase 32 = .ok (.aload_n 0, 1) := by decide +kernel
theorem d_C_erase_33 : decode b_C_erase 33 = .ok (.getfield 15, 3) := by decide +kernel
theorem d_C_erase_36 : decode b_C_erase 36 = .ok (.invokevirtual 59, 3) := by decide +kernel
theorem d_C_erase_39 : decode b_C_erase 39 = .ok (.iconst 0, 1) := by decide +kernel
theorem d_C_erase_40 : decode b_C_erase 40 = .ok (.ireturn, 1) := by decide +kernel
theorem d_C_skip_0 : decode b_C_skip 0 = .ok (.aload_n 0, 1) := by decide +kernel
theorem d_C_skip_1 : decode b_C_skip 1 = .ok (.getfield 15, 3) := by decide +kernel
theorem d_C_skip_4 : decode b_C_skip 4 = .ok (.iload_n 1, 1) := by decide +kernel
theorem d_C_skip_5 : decode b_C_skip 5 = .ok (.invokevirtual 215, 3) := by decide +kernel
theorem d_C_skip_8 : decode b_C_skip 8 = .ok (.iload_n 1, 1) := by decide +kernel
theorem d_C_skip_9 : decode b_C_skip 9 = .ok (.ifCond .eq 10, 3) := by decide +kernel
theorem d_C_skip_12 : decode b_C_skip 12 = .ok (.aload_n 0, 1) := by decide +kernel
theorem d_C_skip_13 : decode b_C_skip 13 = .ok (.getfield 15, 3) := by decide +kernel
theorem d_C_skip_16 : decode b_C_skip 16 = .ok (.invokevirtual 59, 3) := by decide +kernel
theorem d_C_skip_19 : decode b_C_skip 19 = .ok (.iconst 0, 1) := by decide +kernel
theorem d_C_skip_20 : decode b_C_skip 20 = .ok (.ireturn, 1) := by decide +kernel
