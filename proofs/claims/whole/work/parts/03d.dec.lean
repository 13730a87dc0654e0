theorem d_M_init_0 : decode b_M_init 0 = .ok (.aload_n 0, 1) := by decide +kernel
theorem d_M_init_1 : decode b_M_init 1 = .ok (.invokespecial 1, 3) := by decide +kernel
theorem d_M_init_4 : decode b_M_init 4 = .ok (.aload_n 0, 1) := by decide +kernel
theorem d_M_init_5 : decode b_M_init 5 = .ok (.sipush 19200, 3) := by decide +kernel
theorem d_M_init_8 : decode b_M_init 8 = .ok (.newarray .byte, 2) := by decide +kernel
theorem d_M_init_10 : decode b_M_init 10 = .ok (.putfield 7, 3) := by decide +kernel
theorem d_M_init_13 : decode b_M_init 13 = .ok (.aload_n 0, 1) := by decide +kernel
theorem d_M_init_14 : decode b_M_init 14 = .ok (.sipush 19200, 3) := by decide +kernel
theorem d_M_init_17 : decode b_M_init 17 = .ok (.newarray .byte, 2) := by decide +kernel
theorem d_M_init_19 : decode b_M_init 19 = .ok (.putfield 13, 3) := by decide +kernel
theorem d_M_init_22 : decode b_M_init 22 = .ok (.aload_n 0, 1) := by decide +kernel
theorem d_M_init_23 : decode b_M_init 23 = .ok (.sipush 256, 3) := by decide +kernel
theorem d_M_init_26 : decode b_M_init 26 = .ok (.newarray .int, 2) := by decide +kernel
theorem d_M_init_28 : decode b_M_init 28 = .ok (.putfield 16, 3) := by decide +kernel
theorem d_M_init_31 : decode b_M_init 31 = .ok (.aload_n 0, 1) := by decide +kernel
theorem d_M_init_32 : decode b_M_init 32 = .ok (.bipush 16, 2) := by decide +kernel
theorem d_M_init_34 : decode b_M_init 34 = .ok (.newarray .int, 2) := by decide +kernel
theorem d_M_init_36 : decode b_M_init 36 = .ok (.putfield 20, 3) := by decide +kernel
theorem d_M_init_39 : decode b_M_init 39 = .ok (.aload_n 0, 1) := by decide +kernel
theorem d_M_init_40 : decode b_M_init 40 = .ok (.bipush 16, 2) := by decide +kernel
theorem d_M_init_42 : decode b_M_init 42 = .ok (.newarray .int, 2) := by decide +kernel
theorem d_M_init_44 : decode b_M_init 44 = .ok (.putfield 23, 3) := by decide +kernel
theorem d_M_init_47 : decode b_M_init 47 = .ok (.aload_n 0, 1) := by decide +kernel
theorem d_M_init_48 : decode b_M_init 48 = .ok (.bipush 16, 2) := by decide +kernel
theorem d_M_init_50 : decode b_M_init 50 = .ok (.newarray .int, 2) := by decide +kernel
theorem d_M_init_52 : decode b_M_init 52 = .ok (.putfield 26, 3) := by decide +kernel
theorem d_M_init_55 : decode b_M_init 55 = .ok (.aload_n 0, 1) := by decide +kernel
theorem d_M_init_56 : decode b_M_init 56 = .ok (.bipush 32, 2) := by decide +kernel
theorem d_M_init_58 : decode b_M_init 58 = .ok (.newarray .int, 2) := by decide +kernel
theorem d_M_init_60 : decode b_M_init 60 = .ok (.putfield 29, 3) := by decide +kernel
theorem d_M_init_63 : decode b_M_init 63 = .ok (.return_, 1) := by decide +kernel
theorem d_M_thrown_0 : decode b_M_thrown 0 = .ok (.aload_n 0, 1) := by decide +kernel
theorem d_M_thrown_1 : decode b_M_thrown 1 = .ok (.getfield 32, 3) := by decide +kernel
theorem d_M_thrown_4 : decode b_M_thrown 4 = .ok (.ireturn, 1) := by decide +kernel
theorem d_M_throwing_0 : decode b_M_throwing 0 = .ok (.aload_n 0, 1) := by decide +kernel
theorem d_M_throwing_1 : decode b_M_throwing 1 = .ok (.iload_n 1, 1) := by decide +kernel
theorem d_M_throwing_2 : decode b_M_throwing 2 = .ok (.ifCond .eq 7, 3) := by decide +kernel
theorem d_M_throwing_5 : decode b_M_throwing 5 = .ok (.iconst 1, 1) := by decide +kernel
theorem d_M_throwing_6 : decode b_M_throwing 6 = .ok (.goto 12, 3) := by decide +kernel
theorem d_M_throwing_9 : decode b_M_throwing 9 = .ok (.iload_n 2, 1) := by decide +kernel
theorem d_M_throwing_10 : decode b_M_throwing 10 = .ok (.ifCond .eq 7, 3) := by decide +kernel
theorem d_M_throwing_13 : decode b_M_throwing 13 = .ok (.iconst 2, 1) := by decide +kernel
theorem d_M_throwing_14 : decode b_M_throwing 14 = .ok (.goto 4, 3) := by decide +kernel
theorem d_M_throwing_17 : decode b_M_throwing 17 = .ok (.iconst 0, 1) := by decide +kernel
theorem d_M_throwing_18 : decode b_M_throwing 18 = .ok (.putfield 32, 3) := by decide +kernel
theorem d_M_throwing_21 : decode b_M_throwing 21 = .ok (.aload_n 0, 1) := by decide +kernel
theorem d_M_throwing_22 : decode b_M_throwing 22 = .ok (.getfield 32, 3) := by decide +kernel
theorem d_M_throwing_25 : decode b_M_throwing 25 = .ok (.ifCond .le 7, 3) := by decide +kernel
theorem d_M_throwing_28 : decode b_M_throwing 28 = .ok (.iconst 1, 1) := by decide +kernel
theorem d_M_throwing_29 : decode b_M_throwing 29 = .ok (.goto 4, 3) := by decide +kernel
theorem d_M_throwing_32 : decode b_M_throwing 32 = .ok (.iconst 0, 1) := by decide +kernel
theorem d_M_throwing_33 : decode b_M_throwing 33 = .ok (.ireturn, 1) := by decide +kernel
theorem d_M_isBegin_0 : decode b_M_isBegin 0 = .ok (.iload_n 2, 1) := by decide +kernel
theorem d_M_isBegin_1 : decode b_M_isBegin 1 = .ok (.sipush 600, 3) := by decide +kernel
theorem d_M_isBegin_4 : decode b_M_isBegin 4 = .ok (.if_icmp .ge 23, 3) := by decide +kernel
theorem d_M_isBegin_7 : decode b_M_isBegin 7 = .ok (.aload_n 0, 1) := by decide +kernel
theorem d_M_isBegin_8 : decode b_M_isBegin 8 = .ok (.getfield 7, 3) := by decide +kernel
theorem d_M_isBegin_11 : decode b_M_isBegin 11 = .ok (.sipush 600, 3) := by decide +kernel
theorem d_M_isBegin_14 : decode b_M_isBegin 14 = .ok (.iload_n 1, 1) := by decide +kernel
theorem d_M_isBegin_15 : decode b_M_isBegin 15 = .ok (.imul, 1) := by decide +kernel
theorem d_M_isBegin_16 : decode b_M_isBegin 16 = .ok (.iload_n 2, 1) := by decide +kernel
theorem d_M_isBegin_17 : decode b_M_isBegin 17 = .ok (.iadd, 1) := by decide +kernel
theorem d_M_isBegin_18 : decode b_M_isBegin 18 = .ok (.baload, 1) := by decide +kernel
theorem d_M_isBegin_19 : decode b_M_isBegin 19 = .ok (.iconst 1, 1) := by decide +kernel
theorem d_M_isBegin_20 : decode b_M_isBegin 20 = .ok (.if_icmp .ne 7, 3) := by decide +kernel
theorem d_M_isBegin_23 : decode b_M_isBegin 23 = .ok (.iconst 1, 1) := by decide +kernel
theorem d_M_isBegin_24 : decode b_M_isBegin 24 = .ok (.goto 4, 3) := by decide +kernel
theorem d_M_isBegin_27 : decode b_M_isBegin 27 = .ok (.iconst 0, 1) := by decide +kernel
theorem d_M_isBegin_28 : decode b_M_isBegin 28 = .ok (.ireturn, 1) := by decide +kernel
theorem d_M_keyOf_0 : decode b_M_keyOf 0 = .ok (.aload_n 0, 1) := by decide +kernel
theorem d_M_keyOf_1 : decode b_M_keyOf 1 = .ok (.getfield 13, 3) := by decide +kernel
theorem d_M_keyOf_4 : decode b_M_keyOf 4 = .ok (.sipush 600, 3) := by decide +kernel
theorem d_M_keyOf_7 : decode b_M_keyOf 7 = .ok (.iload_n 1, 1) := by decide +kernel
theorem d_M_keyOf_8 : decode b_M_keyOf 8 = .ok (.imul, 1) := by decide +kernel
theorem d_M_keyOf_9 : decode b_M_keyOf 9 = .ok (.iload_n 2, 1) := by decide +kernel
theorem d_M_keyOf_10 : decode b_M_keyOf 10 = .ok (.iadd, 1) := by decide +kernel
theorem d_M_keyOf_11 : decode b_M_keyOf 11 = .ok (.iconst 1, 1) := by decide +kernel
theorem d_M_keyOf_12 : decode b_M_keyOf 12 = .ok (.iadd, 1) := by decide +kernel
theorem d_M_keyOf_13 : decode b_M_keyOf 13 = .ok (.baload, 1) := by decide +kernel
theorem d_M_keyOf_14 : decode b_M_keyOf 14 = .ok (.ireturn, 1) := by decide +kernel
theorem d_M_dataOf_0 : decode b_M_dataOf 0 = .ok (.aload_n 0, 1) := by decide +kernel
theorem d_M_dataOf_1 : decode b_M_dataOf 1 = .ok (.getfield 13, 3) := by decide +kernel
theorem d_M_dataOf_4 : decode b_M_dataOf 4 = .ok (.sipush 600, 3) := by decide +kernel
theorem d_M_dataOf_7 : decode b_M_dataOf 7 = .ok (.iload_n 1, 1) := by decide +kernel
theorem d_M_dataOf_8 : decode b_M_dataOf 8 = .ok (.imul, 1) := by decide +kernel
theorem d_M_dataOf_9 : decode b_M_dataOf 9 = .ok (.iload_n 2, 1) := by decide +kernel
theorem d_M_dataOf_10 : decode b_M_dataOf 10 = .ok (.iadd, 1) := by decide +kernel
theorem d_M_dataOf_11 : decode b_M_dataOf 11 = .ok (.iconst 2, 1) := by decide +kernel
theorem d_M_dataOf_12 : decode b_M_dataOf 12 = .ok (.iadd, 1) := by decide +kernel
theorem d_M_dataOf_13 : decode b_M_dataOf 13 = .ok (.baload, 1) := by decide +kernel
theorem d_M_dataOf_14 : decode b_M_dataOf 14 = .ok (.ireturn, 1) := by decide +kernel
theorem d_M_endOf_0 : decode b_M_endOf 0 = .ok (.iload_n 2, 1) := by decide +kernel
theorem d_M_endOf_1 : decode b_M_endOf 1 = .ok (.bipush 20, 2) := by decide +kernel
theorem d_M_endOf_3 : decode b_M_endOf 3 = .ok (.iadd, 1) := by decide +kernel
theorem d_M_endOf_4 : decode b_M_endOf 4 = .ok (.aload_n 0, 1) := by decide +kernel
theorem d_M_endOf_5 : decode b_M_endOf 5 = .ok (.iload_n 1, 1) := by decide +kernel
theorem d_M_endOf_6 : decode b_M_endOf 6 = .ok (.iload_n 2, 1) := by decide +kernel
theorem d_M_endOf_7 : decode b_M_endOf 7 = .ok (.invokevirtual 36, 3) := by decide +kernel
theorem d_M_endOf_10 : decode b_M_endOf 10 = .ok (.iadd, 1) := by decide +kernel
theorem d_M_endOf_11 : decode b_M_endOf 11 = .ok (.aload_n 0, 1) := by decide +kernel
theorem d_M_endOf_12 : decode b_M_endOf 12 = .ok (.iload_n 1, 1) := by decide +kernel
theorem d_M_endOf_13 : decode b_M_endOf 13 = .ok (.iload_n 2, 1) := by decide +kernel
theorem d_M_endOf_14 : decode b_M_endOf 14 = .ok (.invokevirtual 40, 3) := by decide +kernel
theorem d_M_endOf_17 : decode b_M_endOf 17 = .ok (.iadd, 1) := by decide +kernel
theorem d_M_endOf_18 : decode b_M_endOf 18 = .ok (.ireturn, 1) := by decide +kernel
theorem d_M_isSpoiled_0 : decode b_M_isSpoiled 0 = .ok (.aload_n 0, 1) := by decide +kernel
theorem d_M_isSpoiled_1 : decode b_M_isSpoiled 1 = .ok (.getfield 13, 3) := by decide +kernel
theorem d_M_isSpoiled_4 : decode b_M_isSpoiled 4 = .ok (.sipush 600, 3) := by decide +kernel
theorem d_M_isSpoiled_7 : decode b_M_isSpoiled 7 = .ok (.iload_n 1, 1) := by decide +kernel
theorem d_M_isSpoiled_8 : decode b_M_isSpoiled 8 = .ok (.imul, 1) := by decide +kernel
theorem d_M_isSpoiled_9 : decode b_M_isSpoiled 9 = .ok (.iload_n 2, 1) := by decide +kernel
theorem d_M_isSpoiled_10 : decode b_M_isSpoiled 10 = .ok (.iadd, 1) := by decide +kernel
theorem d_M_isSpoiled_11 : decode b_M_isSpoiled 11 = .ok (.iconst 3, 1) := by decide +kernel
theorem d_M_isSpoiled_12 : decode b_M_isSpoiled 12 = .ok (.iadd, 1) := by decide +kernel
theorem d_M_isSpoiled_13 : decode b_M_isSpoiled 13 = .ok (.baload, 1) := by decide +kernel
theorem d_M_isSpoiled_14 : decode b_M_isSpoiled 14 = .ok (.iconst 1, 1) := by decide +kernel
theorem d_M_isSpoiled_15 : decode b_M_isSpoiled 15 = .ok (.if_icmp .ne 7, 3) := by decide +kernel
theorem d_M_isSpoiled_18 : decode b_M_isSpoiled 18 = .ok (.iconst 1, 1) := by decide +kernel
theorem d_M_isSpoiled_19 : decode b_M_isSpoiled 19 = .ok (.goto 4, 3) := by decide +kernel
theorem d_M_isSpoiled_22 : decode b_M_isSpoiled 22 = .ok (.iconst 0, 1) := by decide +kernel
theorem d_M_isSpoiled_23 : decode b_M_isSpoiled 23 = .ok (.ireturn, 1) := by decide +kernel
theorem d_M_byteAt_0 : decode b_M_byteAt 0 = .ok (.aload_n 0, 1) := by decide +kernel
theorem d_M_byteAt_1 : decode b_M_byteAt 1 = .ok (.getfield 13, 3) := by decide +kernel
theorem d_M_byteAt_4 : decode b_M_byteAt 4 = .ok (.sipush 600, 3) := by decide +kernel
theorem d_M_byteAt_7 : decode b_M_byteAt 7 = .ok (.iload_n 1, 1) := by decide +kernel
theorem d_M_byteAt_8 : decode b_M_byteAt 8 = .ok (.imul, 1) := by decide +kernel
theorem d_M_byteAt_9 : decode b_M_byteAt 9 = .ok (.iload_n 2, 1) := by decide +kernel
theorem d_M_byteAt_10 : decode b_M_byteAt 10 = .ok (.iadd, 1) := by decide +kernel
theorem d_M_byteAt_11 : decode b_M_byteAt 11 = .ok (.bipush 20, 2) := by decide +kernel
theorem d_M_byteAt_13 : decode b_M_byteAt 13 = .ok (.iadd, 1) := by decide +kernel
theorem d_M_byteAt_14 : decode b_M_byteAt 14 = .ok (.iload_n 3, 1) := by decide +kernel
theorem d_M_byteAt_15 : decode b_M_byteAt 15 = .ok (.iadd, 1) := by decide +kernel
theorem d_M_byteAt_16 : decode b_M_byteAt 16 = .ok (.baload, 1) := by decide +kernel
theorem d_M_byteAt_17 : decode b_M_byteAt 17 = .ok (.sipush 255, 3) := by decide +kernel
theorem d_M_byteAt_20 : decode b_M_byteAt 20 = .ok (.iand, 1) := by decide +kernel
theorem d_M_byteAt_21 : decode b_M_byteAt 21 = .ok (.ireturn, 1) := by decide +kernel
theorem d_M_setByte_0 : decode b_M_setByte 0 = .ok (.aload_n 0, 1) := by decide +kernel
theorem d_M_setByte_1 : decode b_M_setByte 1 = .ok (.getfield 13, 3) := by decide +kernel
theorem d_M_setByte_4 : decode b_M_setByte 4 = .ok (.sipush 600, 3) := by decide +kernel
theorem d_M_setByte_7 : decode b_M_setByte 7 = .ok (.iload_n 1, 1) := by decide +kernel
theorem d_M_setByte_8 : decode b_M_setByte 8 = .ok (.imul, 1) := by decide +kernel
theorem d_M_setByte_9 : decode b_M_setByte 9 = .ok (.iload_n 2, 1) := by decide +kernel
theorem d_M_setByte_10 : decode b_M_setByte 10 = .ok (.iadd, 1) := by decide +kernel
theorem d_M_setByte_11 : decode b_M_setByte 11 = .ok (.bipush 20, 2) := by decide +kernel
theorem d_M_setByte_13 : decode b_M_setByte 13 = .ok (.iadd, 1) := by decide +kernel
theorem d_M_setByte_14 : decode b_M_setByte 14 = .ok (.iload_n 3, 1) := by decide +kernel
theorem d_M_setByte_15 : decode b_M_setByte 15 = .ok (.iadd, 1) := by decide +kernel
theorem d_M_setByte_16 : decode b_M_setByte 16 = .ok (.iload 4, 2) := by decide +kernel
theorem d_M_setByte_18 : decode b_M_setByte 18 = .ok (.i2b, 1) := by decide +kernel
theorem d_M_setByte_19 : decode b_M_setByte 19 = .ok (.bastore, 1) := by decide +kernel
theorem d_M_setByte_20 : decode b_M_setByte 20 = .ok (.return_, 1) := by decide +kernel
theorem d_M_spoilAt_0 : decode b_M_spoilAt 0 = .ok (.aload_n 0, 1) := by decide +kernel
theorem d_M_spoilAt_1 : decode b_M_spoilAt 1 = .ok (.getfield 13, 3) := by decide +kernel
theorem d_M_spoilAt_4 : decode b_M_spoilAt 4 = .ok (.sipush 600, 3) := by decide +kernel
theorem d_M_spoilAt_7 : decode b_M_spoilAt 7 = .ok (.iload_n 1, 1) := by decide +kernel
theorem d_M_spoilAt_8 : decode b_M_spoilAt 8 = .ok (.imul, 1) := by decide +kernel
theorem d_M_spoilAt_9 : decode b_M_spoilAt 9 = .ok (.iload_n 2, 1) := by decide +kernel
theorem d_M_spoilAt_10 : decode b_M_spoilAt 10 = .ok (.iadd, 1) := by decide +kernel
theorem d_M_spoilAt_11 : decode b_M_spoilAt 11 = .ok (.iconst 3, 1) := by decide +kernel
theorem d_M_spoilAt_12 : decode b_M_spoilAt 12 = .ok (.iadd, 1) := by decide +kernel
theorem d_M_spoilAt_13 : decode b_M_spoilAt 13 = .ok (.iload_n 3, 1) := by decide +kernel
theorem d_M_spoilAt_14 : decode b_M_spoilAt 14 = .ok (.i2b, 1) := by decide +kernel
theorem d_M_spoilAt_15 : decode b_M_spoilAt 15 = .ok (.bastore, 1) := by decide +kernel
theorem d_M_spoilAt_16 : decode b_M_spoilAt 16 = .ok (.return_, 1) := by decide +kernel
theorem d_M_placeOf_0 : decode b_M_placeOf 0 = .ok (.iconst 0, 1) := by decide +kernel
theorem d_M_placeOf_1 : decode b_M_placeOf 1 = .ok (.istore_n 3, 1) := by decide +kernel
theorem d_M_placeOf_2 : decode b_M_placeOf 2 = .ok (.iconst 1, 1) := by decide +kernel
theorem d_M_placeOf_3 : decode b_M_placeOf 3 = .ok (.istore 4, 2) := by decide +kernel
theorem d_M_placeOf_5 : decode b_M_placeOf 5 = .ok (.iload 4, 2) := by decide +kernel
theorem d_M_placeOf_7 : decode b_M_placeOf 7 = .ok (.iload_n 2, 1) := by decide +kernel
theorem d_M_placeOf_8 : decode b_M_placeOf 8 = .ok (.if_icmp .ge 27, 3) := by decide +kernel
theorem d_M_placeOf_11 : decode b_M_placeOf 11 = .ok (.aload_n 0, 1) := by decide +kernel
theorem d_M_placeOf_12 : decode b_M_placeOf 12 = .ok (.iload_n 1, 1) := by decide +kernel
theorem d_M_placeOf_13 : decode b_M_placeOf 13 = .ok (.iload_n 3, 1) := by decide +kernel
theorem d_M_placeOf_14 : decode b_M_placeOf 14 = .ok (.invokevirtual 43, 3) := by decide +kernel
theorem d_M_placeOf_17 : decode b_M_placeOf 17 = .ok (.ifCond .ne 5, 3) := by decide +kernel
theorem d_M_placeOf_20 : decode b_M_placeOf 20 = .ok (.iconst (-1), 1) := by decide +kernel
theorem d_M_placeOf_21 : decode b_M_placeOf 21 = .ok (.ireturn, 1) := by decide +kernel
theorem d_M_placeOf_22 : decode b_M_placeOf 22 = .ok (.aload_n 0, 1) := by decide +kernel
theorem d_M_placeOf_23 : decode b_M_placeOf 23 = .ok (.iload_n 1, 1) := by decide +kernel
theorem d_M_placeOf_24 : decode b_M_placeOf 24 = .ok (.iload_n 3, 1) := by decide +kernel
theorem d_M_placeOf_25 : decode b_M_placeOf 25 = .ok (.invokevirtual 47, 3) := by decide +kernel
theorem d_M_placeOf_28 : decode b_M_placeOf 28 = .ok (.istore_n 3, 1) := by decide +kernel
theorem d_M_placeOf_29 : decode b_M_placeOf 29 = .ok (.iinc 4 1, 3) := by decide +kernel
theorem d_M_placeOf_32 : decode b_M_placeOf 32 = .ok (.goto (-27), 3) := by decide +kernel
theorem d_M_placeOf_35 : decode b_M_placeOf 35 = .ok (.iload_n 3, 1) := by decide +kernel
theorem d_M_placeOf_36 : decode b_M_placeOf 36 = .ok (.ireturn, 1) := by decide +kernel
theorem d_M_many_0 : decode b_M_many 0 = .ok (.iconst 0, 1) := by decide +kernel
theorem d_M_many_1 : decode b_M_many 1 = .ok (.istore_n 2, 1) := by decide +kernel
theorem d_M_many_2 : decode b_M_many 2 = .ok (.iconst 0, 1) := by decide +kernel
theorem d_M_many_3 : decode b_M_many 3 = .ok (.istore_n 3, 1) := by decide +kernel
theorem d_M_many_4 : decode b_M_many 4 = .ok (.iload_n 3, 1) := by decide +kernel
theorem d_M_many_5 : decode b_M_many 5 = .ok (.sipush 600, 3) := by decide +kernel
theorem d_M_many_8 : decode b_M_many 8 = .ok (.if_icmp .ge 24, 3) := by decide +kernel
theorem d_M_many_11 : decode b_M_many 11 = .ok (.iload_n 2, 1) := by decide +kernel
theorem d_M_many_12 : decode b_M_many 12 = .ok (.aload_n 0, 1) := by decide +kernel
theorem d_M_many_13 : decode b_M_many 13 = .ok (.getfield 7, 3) := by decide +kernel
theorem d_M_many_16 : decode b_M_many 16 = .ok (.sipush 600, 3) := by decide +kernel
theorem d_M_many_19 : decode b_M_many 19 = .ok (.iload_n 1, 1) := by decide +kernel
theorem d_M_many_20 : decode b_M_many 20 = .ok (.imul, 1) := by decide +kernel
theorem d_M_many_21 : decode b_M_many 21 = .ok (.iload_n 3, 1) := by decide +kernel
theorem d_M_many_22 : decode b_M_many 22 = .ok (.iadd, 1) := by decide +kernel
theorem d_M_many_23 : decode b_M_many 23 = .ok (.baload, 1) := by decide +kernel
theorem d_M_many_24 : decode b_M_many 24 = .ok (.iadd, 1) := by decide +kernel
theorem d_M_many_25 : decode b_M_many 25 = .ok (.istore_n 2, 1) := by decide +kernel
theorem d_M_many_26 : decode b_M_many 26 = .ok (.iinc 3 1, 3) := by decide +kernel
theorem d_M_many_29 : decode b_M_many 29 = .ok (.goto (-25), 3) := by decide +kernel
theorem d_M_many_32 : decode b_M_many 32 = .ok (.iload_n 2, 1) := by decide +kernel
theorem d_M_many_33 : decode b_M_many 33 = .ok (.ireturn, 1) := by decide +kernel
theorem d_M_numberOf_0 : decode b_M_numberOf 0 = .ok (.iconst 0, 1) := by decide +kernel
theorem d_M_numberOf_1 : decode b_M_numberOf 1 = .ok (.istore_n 3, 1) := by decide +kernel
theorem d_M_numberOf_2 : decode b_M_numberOf 2 = .ok (.iconst 0, 1) := by decide +kernel
theorem d_M_numberOf_3 : decode b_M_numberOf 3 = .ok (.istore 4, 2) := by decide +kernel
theorem d_M_numberOf_5 : decode b_M_numberOf 5 = .ok (.iload 4, 2) := by decide +kernel
theorem d_M_numberOf_7 : decode b_M_numberOf 7 = .ok (.iload_n 2, 1) := by decide +kernel
theorem d_M_numberOf_8 : decode b_M_numberOf 8 = .ok (.if_icmp .gt 25, 3) := by decide +kernel
theorem d_M_numberOf_11 : decode b_M_numberOf 11 = .ok (.iload_n 3, 1) := by decide +kernel
theorem d_M_numberOf_12 : decode b_M_numberOf 12 = .ok (.aload_n 0, 1) := by decide +kernel
theorem d_M_numberOf_13 : decode b_M_numberOf 13 = .ok (.getfield 7, 3) := by decide +kernel
theorem d_M_numberOf_16 : decode b_M_numberOf 16 = .ok (.sipush 600, 3) := by decide +kernel
theorem d_M_numberOf_19 : decode b_M_numberOf 19 = .ok (.iload_n 1, 1) := by decide +kernel
theorem d_M_numberOf_20 : decode b_M_numberOf 20 = .ok (.imul, 1) := by decide +kernel
theorem d_M_numberOf_21 : decode b_M_numberOf 21 = .ok (.iload 4, 2) := by decide +kernel
theorem d_M_numberOf_23 : decode b_M_numberOf 23 = .ok (.iadd, 1) := by decide +kernel
theorem d_M_numberOf_24 : decode b_M_numberOf 24 = .ok (.baload, 1) := by decide +kernel
theorem d_M_numberOf_25 : decode b_M_numberOf 25 = .ok (.iadd, 1) := by decide +kernel
theorem d_M_numberOf_26 : decode b_M_numberOf 26 = .ok (.istore_n 3, 1) := by decide +kernel
theorem d_M_numberOf_27 : decode b_M_numberOf 27 = .ok (.iinc 4 1, 3) := by decide +kernel
theorem d_M_numberOf_30 : decode b_M_numberOf 30 = .ok (.goto (-25), 3) := by decide +kernel
theorem d_M_numberOf_33 : decode b_M_numberOf 33 = .ok (.iload_n 3, 1) := by decide +kernel
theorem d_M_numberOf_34 : decode b_M_numberOf 34 = .ok (.ireturn, 1) := by decide +kernel
theorem d_M_clear_0 : decode b_M_clear 0 = .ok (.iload_n 2, 1) := by decide +kernel
theorem d_M_clear_1 : decode b_M_clear 1 = .ok (.istore_n 3, 1) := by decide +kernel
theorem d_M_clear_2 : decode b_M_clear 2 = .ok (.iload_n 3, 1) := by decide +kernel
theorem d_M_clear_3 : decode b_M_clear 3 = .ok (.sipush 600, 3) := by decide +kernel
theorem d_M_clear_6 : decode b_M_clear 6 = .ok (.if_icmp .ge 22, 3) := by decide +kernel
theorem d_M_clear_9 : decode b_M_clear 9 = .ok (.aload_n 0, 1) := by decide +kernel
theorem d_M_clear_10 : decode b_M_clear 10 = .ok (.getfield 7, 3) := by decide +kernel
theorem d_M_clear_13 : decode b_M_clear 13 = .ok (.sipush 600, 3) := by decide +kernel
theorem d_M_clear_16 : decode b_M_clear 16 = .ok (.iload_n 1, 1) := by decide +kernel
theorem d_M_clear_17 : decode b_M_clear 17 = .ok (.imul, 1) := by decide +kernel
theorem d_M_clear_18 : decode b_M_clear 18 = .ok (.iload_n 3, 1) := by decide +kernel
theorem d_M_clear_19 : decode b_M_clear 19 = .ok (.iadd, 1) := by decide +kernel
theorem d_M_clear_20 : decode b_M_clear 20 = .ok (.iconst 0, 1) := by decide +kernel
theorem d_M_clear_21 : decode b_M_clear 21 = .ok (.bastore, 1) := by decide +kernel
theorem d_M_clear_22 : decode b_M_clear 22 = .ok (.iinc 3 1, 3) := by decide +kernel
theorem d_M_clear_25 : decode b_M_clear 25 = .ok (.goto (-23), 3) := by decide +kernel
theorem d_M_clear_28 : decode b_M_clear 28 = .ok (.return_, 1) := by decide +kernel
theorem d_M_lay_0 : decode b_M_lay 0 = .ok (.aload_n 0, 1) := by decide +kernel
theorem d_M_lay_1 : decode b_M_lay 1 = .ok (.getfield 7, 3) := by decide +kernel
theorem d_M_lay_4 : decode b_M_lay 4 = .ok (.sipush 600, 3) := by decide +kernel
theorem d_M_lay_7 : decode b_M_lay 7 = .ok (.iload_n 1, 1) := by decide +kernel
theorem d_M_lay_8 : decode b_M_lay 8 = .ok (.imul, 1) := by decide +kernel
theorem d_M_lay_9 : decode b_M_lay 9 = .ok (.iload_n 2, 1) := by decide +kernel
theorem d_M_lay_10 : decode b_M_lay 10 = .ok (.iadd, 1) := by decide +kernel
theorem d_M_lay_11 : decode b_M_lay 11 = .ok (.iconst 1, 1) := by decide +kernel
theorem d_M_lay_12 : decode b_M_lay 12 = .ok (.bastore, 1) := by decide +kernel
theorem d_M_lay_13 : decode b_M_lay 13 = .ok (.aload_n 0, 1) := by decide +kernel
theorem d_M_lay_14 : decode b_M_lay 14 = .ok (.getfield 13, 3) := by decide +kernel
theorem d_M_lay_17 : decode b_M_lay 17 = .ok (.sipush 600, 3) := by decide +kernel
theorem d_M_lay_20 : decode b_M_lay 20 = .ok (.iload_n 1, 1) := by decide +kernel
theorem d_M_lay_21 : decode b_M_lay 21 = .ok (.imul, 1) := by decide +kernel
theorem d_M_lay_22 : decode b_M_lay 22 = .ok (.iload_n 2, 1) := by decide +kernel
theorem d_M_lay_23 : decode b_M_lay 23 = .ok (.iadd, 1) := by decide +kernel
theorem d_M_lay_24 : decode b_M_lay 24 = .ok (.iconst 1, 1) := by decide +kernel
theorem d_M_lay_25 : decode b_M_lay 25 = .ok (.iadd, 1) := by decide +kernel
theorem d_M_lay_26 : decode b_M_lay 26 = .ok (.iload_n 3, 1) := by decide +kernel
theorem d_M_lay_27 : decode b_M_lay 27 = .ok (.i2b, 1) := by decide +kernel
theorem d_M_lay_28 : decode b_M_lay 28 = .ok (.bastore, 1) := by decide +kernel
theorem d_M_lay_29 : decode b_M_lay 29 = .ok (.aload_n 0, 1) := by decide +kernel
theorem d_M_lay_30 : decode b_M_lay 30 = .ok (.getfield 13, 3) := by decide +kernel
theorem d_M_lay_33 : decode b_M_lay 33 = .ok (.sipush 600, 3) := by decide +kernel
theorem d_M_lay_36 : decode b_M_lay 36 = .ok (.iload_n 1, 1) := by decide +kernel
theorem d_M_lay_37 : decode b_M_lay 37 = .ok (.imul, 1) := by decide +kernel
theorem d_M_lay_38 : decode b_M_lay 38 = .ok (.iload_n 2, 1) := by decide +kernel
theorem d_M_lay_39 : decode b_M_lay 39 = .ok (.iadd, 1) := by decide +kernel
theorem d_M_lay_40 : decode b_M_lay 40 = .ok (.iconst 2, 1) := by decide +kernel
theorem d_M_lay_41 : decode b_M_lay 41 = .ok (.iadd, 1) := by decide +kernel
theorem d_M_lay_42 : decode b_M_lay 42 = .ok (.iload 4, 2) := by decide +kernel
theorem d_M_lay_44 : decode b_M_lay 44 = .ok (.i2b, 1) := by decide +kernel
theorem d_M_lay_45 : decode b_M_lay 45 = .ok (.bastore, 1) := by decide +kernel
theorem d_M_lay_46 : decode b_M_lay 46 = .ok (.aload_n 0, 1) := by decide +kernel
theorem d_M_lay_47 : decode b_M_lay 47 = .ok (.getfield 13, 3) := by decide +kernel
theorem d_M_lay_50 : decode b_M_lay 50 = .ok (.sipush 600, 3) := by decide +kernel
theorem d_M_lay_53 : decode b_M_lay 53 = .ok (.iload_n 1, 1) := by decide +kernel
theorem d_M_lay_54 : decode b_M_lay 54 = .ok (.imul, 1) := by decide +kernel
theorem d_M_lay_55 : decode b_M_lay 55 = .ok (.iload_n 2, 1) := by decide +kernel
theorem d_M_lay_56 : decode b_M_lay 56 = .ok (.iadd, 1) := by decide +kernel
theorem d_M_lay_57 : decode b_M_lay 57 = .ok (.iconst 3, 1) := by decide +kernel
theorem d_M_lay_58 : decode b_M_lay 58 = .ok (.iadd, 1) := by decide +kernel
theorem d_M_lay_59 : decode b_M_lay 59 = .ok (.iconst 0, 1) := by decide +kernel
theorem d_M_lay_60 : decode b_M_lay 60 = .ok (.bastore, 1) := by decide +kernel
theorem d_M_lay_61 : decode b_M_lay 61 = .ok (.return_, 1) := by decide +kernel
theorem d_M_command_0 : decode b_M_command 0 = .ok (.iload_n 1, 1) := by decide +kernel
theorem d_M_command_1 : decode b_M_command 1 = .ok (.iconst (-1), 1) := by decide +kernel
theorem d_M_command_2 : decode b_M_command 2 = .ok (.if_icmp .lt 9, 3) := by decide +kernel
theorem d_M_command_5 : decode b_M_command 5 = .ok (.iload_n 1, 1) := by decide +kernel
theorem d_M_command_6 : decode b_M_command 6 = .ok (.bipush 11, 2) := by decide +kernel
theorem d_M_command_8 : decode b_M_command 8 = .ok (.if_icmp .le 7, 3) := by decide +kernel
theorem d_M_command_11 : decode b_M_command 11 = .ok (.iconst 1, 1) := by decide +kernel
theorem d_M_command_12 : decode b_M_command 12 = .ok (.goto 4, 3) := by decide +kernel
theorem d_M_command_15 : decode b_M_command 15 = .ok (.iconst 0, 1) := by decide +kernel
theorem d_M_command_16 : decode b_M_command 16 = .ok (.istore 4, 2) := by decide +kernel
theorem d_M_command_18 : decode b_M_command 18 = .ok (.aload_n 0, 1) := by decide +kernel
theorem d_M_command_19 : decode b_M_command 19 = .ok (.iload 4, 2) := by decide +kernel
theorem d_M_command_21 : decode b_M_command 21 = .ok (.iload_n 1, 1) := by decide +kernel
theorem d_M_command_22 : decode b_M_command 22 = .ok (.ifCond .lt 16, 3) := by decide +kernel
theorem d_M_command_25 : decode b_M_command 25 = .ok (.aload_n 0, 1) := by decide +kernel
theorem d_M_command_26 : decode b_M_command 26 = .ok (.getfield 50, 3) := by decide +kernel
theorem d_M_command_29 : decode b_M_command 29 = .ok (.bipush 16, 2) := by decide +kernel
theorem d_M_command_31 : decode b_M_command 31 = .ok (.if_icmp .ne 7, 3) := by decide +kernel
theorem d_M_command_34 : decode b_M_command 34 = .ok (.iconst 1, 1) := by decide +kernel
theorem d_M_command_35 : decode b_M_command 35 = .ok (.goto 4, 3) := by decide +kernel
theorem d_M_command_38 : decode b_M_command 38 = .ok (.iconst 0, 1) := by decide +kernel
theorem d_M_command_39 : decode b_M_command 39 = .ok (.invokevirtual 53, 3) := by decide +kernel
theorem d_M_command_42 : decode b_M_command 42 = .ok (.ifCond .eq 5, 3) := by decide +kernel
theorem d_M_command_45 : decode b_M_command 45 = .ok (.iconst 0, 1) := by decide +kernel
theorem d_M_command_46 : decode b_M_command 46 = .ok (.ireturn, 1) := by decide +kernel
theorem d_M_command_47 : decode b_M_command 47 = .ok (.iload_n 1, 1) := by decide +kernel
theorem d_M_command_48 : decode b_M_command 48 = .ok (.ifCond .ge 10, 3) := by decide +kernel
theorem d_M_command_51 : decode b_M_command 51 = .ok (.aload_n 0, 1) := by decide +kernel
theorem d_M_command_52 : decode b_M_command 52 = .ok (.iconst 0, 1) := by decide +kernel
theorem d_M_command_53 : decode b_M_command 53 = .ok (.putfield 50, 3) := by decide +kernel
theorem d_M_command_56 : decode b_M_command 56 = .ok (.iconst 0, 1) := by decide +kernel
theorem d_M_command_57 : decode b_M_command 57 = .ok (.ireturn, 1) := by decide +kernel
theorem d_M_command_58 : decode b_M_command 58 = .ok (.aload_n 0, 1) := by decide +kernel
theorem d_M_command_59 : decode b_M_command 59 = .ok (.getfield 20, 3) := by decide +kernel
theorem d_M_command_62 : decode b_M_command 62 = .ok (.aload_n 0, 1) := by decide +kernel
theorem d_M_command_63 : decode b_M_command 63 = .ok (.getfield 50, 3) := by decide +kernel
theorem d_M_command_66 : decode b_M_command 66 = .ok (.iload_n 1, 1) := by decide +kernel
theorem d_M_command_67 : decode b_M_command 67 = .ok (.iastore, 1) := by decide +kernel
theorem d_M_command_68 : decode b_M_command 68 = .ok (.aload_n 0, 1) := by decide +kernel
theorem d_M_command_69 : decode b_M_command 69 = .ok (.getfield 23, 3) := by decide +kernel
theorem d_M_command_72 : decode b_M_command 72 = .ok (.aload_n 0, 1) := by decide +kernel
theorem d_M_command_73 : decode b_M_command 73 = .ok (.getfield 50, 3) := by decide +kernel
theorem d_M_command_76 : decode b_M_command 76 = .ok (.iload_n 2, 1) := by decide +kernel
theorem d_M_command_77 : decode b_M_command 77 = .ok (.iastore, 1) := by decide +kernel
theorem d_M_command_78 : decode b_M_command 78 = .ok (.aload_n 0, 1) := by decide +kernel
theorem d_M_command_79 : decode b_M_command 79 = .ok (.getfield 26, 3) := by decide +kernel
theorem d_M_command_82 : decode b_M_command 82 = .ok (.aload_n 0, 1) := by decide +kernel
theorem d_M_command_83 : decode b_M_command 83 = .ok (.getfield 50, 3) := by decide +kernel
theorem d_M_command_86 : decode b_M_command 86 = .ok (.iload_n 3, 1) := by decide +kernel
theorem d_M_command_87 : decode b_M_command 87 = .ok (.iastore, 1) := by decide +kernel
theorem d_M_command_88 : decode b_M_command 88 = .ok (.aload_n 0, 1) := by decide +kernel
theorem d_M_command_89 : decode b_M_command 89 = .ok (.dup, 1) := by decide +kernel
theorem d_M_command_90 : decode b_M_command 90 = .ok (.getfield 50, 3) := by decide +kernel
theorem d_M_command_93 : decode b_M_command 93 = .ok (.iconst 1, 1) := by decide +kernel
theorem d_M_command_94 : decode b_M_command 94 = .ok (.iadd, 1) := by decide +kernel
theorem d_M_command_95 : decode b_M_command 95 = .ok (.putfield 50, 3) := by decide +kernel
theorem d_M_command_98 : decode b_M_command 98 = .ok (.aload_n 0, 1) := by decide +kernel
theorem d_M_command_99 : decode b_M_command 99 = .ok (.getfield 50, 3) := by decide +kernel
theorem d_M_command_102 : decode b_M_command 102 = .ok (.ireturn, 1) := by decide +kernel
theorem d_M_isPlace_0 : decode b_M_isPlace 0 = .ok (.iload_n 0, 1) := by decide +kernel
theorem d_M_isPlace_1 : decode b_M_isPlace 1 = .ok (.ifCond .lt 14, 3) := by decide +kernel
theorem d_M_isPlace_4 : decode b_M_isPlace 4 = .ok (.iload_n 0, 1) := by decide +kernel
theorem d_M_isPlace_5 : decode b_M_isPlace 5 = .ok (.sipush 256, 3) := by decide +kernel
theorem d_M_isPlace_8 : decode b_M_isPlace 8 = .ok (.if_icmp .ge 7, 3) := by decide +kernel
theorem d_M_isPlace_11 : decode b_M_isPlace 11 = .ok (.iconst 1, 1) := by decide +kernel
theorem d_M_isPlace_12 : decode b_M_isPlace 12 = .ok (.goto 4, 3) := by decide +kernel
theorem d_M_isPlace_15 : decode b_M_isPlace 15 = .ok (.iconst 0, 1) := by decide +kernel
theorem d_M_isPlace_16 : decode b_M_isPlace 16 = .ok (.ireturn, 1) := by decide +kernel
theorem d_M_poke_0 : decode b_M_poke 0 = .ok (.aload_n 0, 1) := by decide +kernel
theorem d_M_poke_1 : decode b_M_poke 1 = .ok (.iload_n 1, 1) := by decide +kernel
theorem d_M_poke_2 : decode b_M_poke 2 = .ok (.invokestatic 57, 3) := by decide +kernel
theorem d_M_poke_5 : decode b_M_poke 5 = .ok (.ifCond .ne 7, 3) := by decide +kernel
theorem d_M_poke_8 : decode b_M_poke 8 = .ok (.iconst 1, 1) := by decide +kernel
theorem d_M_poke_9 : decode b_M_poke 9 = .ok (.goto 4, 3) := by decide +kernel
theorem d_M_poke_12 : decode b_M_poke 12 = .ok (.iconst 0, 1) := by decide +kernel
theorem d_M_poke_13 : decode b_M_poke 13 = .ok (.iconst 0, 1) := by decide +kernel
theorem d_M_poke_14 : decode b_M_poke 14 = .ok (.invokevirtual 53, 3) := by decide +kernel
theorem d_M_poke_17 : decode b_M_poke 17 = .ok (.ifCond .eq 4, 3) := by decide +kernel
theorem d_M_poke_20 : decode b_M_poke 20 = .ok (.return_, 1) := by decide +kernel
theorem d_M_poke_21 : decode b_M_poke 21 = .ok (.aload_n 0, 1) := by decide +kernel
theorem d_M_poke_22 : decode b_M_poke 22 = .ok (.getfield 16, 3) := by decide +kernel
theorem d_M_poke_25 : decode b_M_poke 25 = .ok (.iload_n 1, 1) := by decide +kernel
theorem d_M_poke_26 : decode b_M_poke 26 = .ok (.iload_n 2, 1) := by decide +kernel
theorem d_M_poke_27 : decode b_M_poke 27 = .ok (.sipush 255, 3) := by decide +kernel
theorem d_M_poke_30 : decode b_M_poke 30 = .ok (.iand, 1) := by decide +kernel
theorem d_M_poke_31 : decode b_M_poke 31 = .ok (.iastore, 1) := by decide +kernel
theorem d_M_poke_32 : decode b_M_poke 32 = .ok (.return_, 1) := by decide +kernel
theorem d_M_peek_0 : decode b_M_peek 0 = .ok (.aload_n 0, 1) := by decide +kernel
theorem d_M_peek_1 : decode b_M_peek 1 = .ok (.iload_n 1, 1) := by decide +kernel
theorem d_M_peek_2 : decode b_M_peek 2 = .ok (.invokestatic 57, 3) := by decide +kernel
theorem d_M_peek_5 : decode b_M_peek 5 = .ok (.ifCond .ne 7, 3) := by decide +kernel
theorem d_M_peek_8 : decode b_M_peek 8 = .ok (.iconst 1, 1) := by decide +kernel
theorem d_M_peek_9 : decode b_M_peek 9 = .ok (.goto 4, 3) := by decide +kernel
theorem d_M_peek_12 : decode b_M_peek 12 = .ok (.iconst 0, 1) := by decide +kernel
theorem d_M_peek_13 : decode b_M_peek 13 = .ok (.iconst 0, 1) := by decide +kernel
theorem d_M_peek_14 : decode b_M_peek 14 = .ok (.invokevirtual 53, 3) := by decide +kernel
theorem d_M_peek_17 : decode b_M_peek 17 = .ok (.ifCond .eq 7, 3) := by decide +kernel
theorem d_M_peek_20 : decode b_M_peek 20 = .ok (.iconst 0, 1) := by decide +kernel
theorem d_M_peek_21 : decode b_M_peek 21 = .ok (.goto 9, 3) := by decide +kernel
theorem d_M_peek_24 : decode b_M_peek 24 = .ok (.aload_n 0, 1) := by decide +kernel
theorem d_M_peek_25 : decode b_M_peek 25 = .ok (.getfield 16, 3) := by decide +kernel
theorem d_M_peek_28 : decode b_M_peek 28 = .ok (.iload_n 1, 1) := by decide +kernel
theorem d_M_peek_29 : decode b_M_peek 29 = .ok (.iaload, 1) := by decide +kernel
theorem d_M_peek_30 : decode b_M_peek 30 = .ok (.ireturn, 1) := by decide +kernel
theorem d_M_place_0 : decode b_M_place 0 = .ok (.aload_n 0, 1) := by decide +kernel
theorem d_M_place_1 : decode b_M_place 1 = .ok (.getfield 61, 3) := by decide +kernel
theorem d_M_place_4 : decode b_M_place 4 = .ok (.ldc2_w 65, 3) := by decide +kernel
theorem d_M_place_7 : decode b_M_place 7 = .ok (.lrem, 1) := by decide +kernel
theorem d_M_place_8 : decode b_M_place 8 = .ok (.l2i, 1) := by decide +kernel
theorem d_M_place_9 : decode b_M_place 9 = .ok (.ireturn, 1) := by decide +kernel
theorem d_M_tick_0 : decode b_M_tick 0 = .ok (.aload_n 0, 1) := by decide +kernel
theorem d_M_tick_1 : decode b_M_tick 1 = .ok (.dup, 1) := by decide +kernel
theorem d_M_tick_2 : decode b_M_tick 2 = .ok (.getfield 61, 3) := by decide +kernel
theorem d_M_tick_5 : decode b_M_tick 5 = .ok (.lconst 1, 1) := by decide +kernel
theorem d_M_tick_6 : decode b_M_tick 6 = .ok (.ladd, 1) := by decide +kernel
theorem d_M_tick_7 : decode b_M_tick 7 = .ok (.putfield 61, 3) := by decide +kernel
theorem d_M_tick_10 : decode b_M_tick 10 = .ok (.aload_n 0, 1) := by decide +kernel
theorem d_M_tick_11 : decode b_M_tick 11 = .ok (.invokevirtual 67, 3) := by decide +kernel
theorem d_M_tick_14 : decode b_M_tick 14 = .ok (.ifCond .le 4, 3) := by decide +kernel
theorem d_M_tick_17 : decode b_M_tick 17 = .ok (.return_, 1) := by decide +kernel
theorem d_M_tick_18 : decode b_M_tick 18 = .ok (.aload_n 0, 1) := by decide +kernel
theorem d_M_tick_19 : decode b_M_tick 19 = .ok (.dup, 1) := by decide +kernel
theorem d_M_tick_20 : decode b_M_tick 20 = .ok (.getfield 71, 3) := by decide +kernel
theorem d_M_tick_23 : decode b_M_tick 23 = .ok (.iconst 1, 1) := by decide +kernel
theorem d_M_tick_24 : decode b_M_tick 24 = .ok (.iadd, 1) := by decide +kernel
theorem d_M_tick_25 : decode b_M_tick 25 = .ok (.putfield 71, 3) := by decide +kernel
theorem d_M_tick_28 : decode b_M_tick 28 = .ok (.aload_n 0, 1) := by decide +kernel
theorem d_M_tick_29 : decode b_M_tick 29 = .ok (.dup, 1) := by decide +kernel
theorem d_M_tick_30 : decode b_M_tick 30 = .ok (.getfield 74, 3) := by decide +kernel
theorem d_M_tick_33 : decode b_M_tick 33 = .ok (.iconst 1, 1) := by decide +kernel
theorem d_M_tick_34 : decode b_M_tick 34 = .ok (.iadd, 1) := by decide +kernel
theorem d_M_tick_35 : decode b_M_tick 35 = .ok (.putfield 74, 3) := by decide +kernel
theorem d_M_tick_38 : decode b_M_tick 38 = .ok (.return_, 1) := by decide +kernel
theorem d_M_goTo_0 : decode b_M_goTo 0 = .ok (.aload_n 0, 1) := by decide +kernel
theorem d_M_goTo_1 : decode b_M_goTo 1 = .ok (.invokevirtual 67, 3) := by decide +kernel
theorem d_M_goTo_4 : decode b_M_goTo 4 = .ok (.iload_n 1, 1) := by decide +kernel
theorem d_M_goTo_5 : decode b_M_goTo 5 = .ok (.sipush 600, 3) := by decide +kernel
theorem d_M_goTo_8 : decode b_M_goTo 8 = .ok (.irem, 1) := by decide +kernel
theorem d_M_goTo_9 : decode b_M_goTo 9 = .ok (.if_icmp .eq 10, 3) := by decide +kernel
theorem d_M_goTo_12 : decode b_M_goTo 12 = .ok (.aload_n 0, 1) := by decide +kernel
theorem d_M_goTo_13 : decode b_M_goTo 13 = .ok (.invokevirtual 77, 3) := by decide +kernel
theorem d_M_goTo_16 : decode b_M_goTo 16 = .ok (.goto (-16), 3) := by decide +kernel
theorem d_M_goTo_19 : decode b_M_goTo 19 = .ok (.return_, 1) := by decide +kernel
theorem d_M_movesOn_0 : decode b_M_movesOn 0 = .ok (.aload_n 0, 1) := by decide +kernel
theorem d_M_movesOn_1 : decode b_M_movesOn 1 = .ok (.aload_n 0, 1) := by decide +kernel
theorem d_M_movesOn_2 : decode b_M_movesOn 2 = .ok (.getfield 80, 3) := by decide +kernel
theorem d_M_movesOn_5 : decode b_M_movesOn 5 = .ok (.invokevirtual 83, 3) := by decide +kernel
theorem d_M_movesOn_8 : decode b_M_movesOn 8 = .ok (.ifCond .ne 32, 3) := by decide +kernel
theorem d_M_movesOn_11 : decode b_M_movesOn 11 = .ok (.iconst 0, 1) := by decide +kernel
theorem d_M_movesOn_12 : decode b_M_movesOn 12 = .ok (.istore_n 1, 1) := by decide +kernel
theorem d_M_movesOn_13 : decode b_M_movesOn 13 = .ok (.iload_n 1, 1) := by decide +kernel
theorem d_M_movesOn_14 : decode b_M_movesOn 14 = .ok (.iconst 2, 1) := by decide +kernel
theorem d_M_movesOn_15 : decode b_M_movesOn 15 = .ok (.if_icmp .ge 18, 3) := by decide +kernel
theorem d_M_movesOn_18 : decode b_M_movesOn 18 = .ok (.aload_n 0, 1) := by decide +kernel
theorem d_M_movesOn_19 : decode b_M_movesOn 19 = .ok (.invokevirtual 77, 3) := by decide +kernel
theorem d_M_movesOn_22 : decode b_M_movesOn 22 = .ok (.aload_n 0, 1) := by decide +kernel
theorem d_M_movesOn_23 : decode b_M_movesOn 23 = .ok (.iconst 0, 1) := by decide +kernel
theorem d_M_movesOn_24 : decode b_M_movesOn 24 = .ok (.invokevirtual 87, 3) := by decide +kernel
theorem d_M_movesOn_27 : decode b_M_movesOn 27 = .ok (.iinc 1 1, 3) := by decide +kernel
theorem d_M_movesOn_30 : decode b_M_movesOn 30 = .ok (.goto (-17), 3) := by decide +kernel
theorem d_M_movesOn_33 : decode b_M_movesOn 33 = .ok (.aload_n 0, 1) := by decide +kernel
theorem d_M_movesOn_34 : decode b_M_movesOn 34 = .ok (.iconst 1, 1) := by decide +kernel
theorem d_M_movesOn_35 : decode b_M_movesOn 35 = .ok (.putfield 91, 3) := by decide +kernel
theorem d_M_movesOn_38 : decode b_M_movesOn 38 = .ok (.iconst 0, 1) := by decide +kernel
theorem d_M_movesOn_39 : decode b_M_movesOn 39 = .ok (.ireturn, 1) := by decide +kernel
theorem d_M_movesOn_40 : decode b_M_movesOn 40 = .ok (.aload_n 0, 1) := by decide +kernel
theorem d_M_movesOn_41 : decode b_M_movesOn 41 = .ok (.getfield 94, 3) := by decide +kernel
theorem d_M_movesOn_44 : decode b_M_movesOn 44 = .ok (.ifCond .le 40, 3) := by decide +kernel
theorem d_M_movesOn_47 : decode b_M_movesOn 47 = .ok (.aload_n 0, 1) := by decide +kernel
theorem d_M_movesOn_48 : decode b_M_movesOn 48 = .ok (.aload_n 0, 1) := by decide +kernel
theorem d_M_movesOn_49 : decode b_M_movesOn 49 = .ok (.getfield 80, 3) := by decide +kernel
theorem d_M_movesOn_52 : decode b_M_movesOn 52 = .ok (.aload_n 0, 1) := by decide +kernel
theorem d_M_movesOn_53 : decode b_M_movesOn 53 = .ok (.getfield 97, 3) := by decide +kernel
theorem d_M_movesOn_56 : decode b_M_movesOn 56 = .ok (.invokevirtual 47, 3) := by decide +kernel
theorem d_M_movesOn_59 : decode b_M_movesOn 59 = .ok (.istore_n 1, 1) := by decide +kernel
theorem d_M_movesOn_60 : decode b_M_movesOn 60 = .ok (.aload_n 0, 1) := by decide +kernel
theorem d_M_movesOn_61 : decode b_M_movesOn 61 = .ok (.aload_n 0, 1) := by decide +kernel
theorem d_M_movesOn_62 : decode b_M_movesOn 62 = .ok (.aload_n 0, 1) := by decide +kernel
theorem d_M_movesOn_63 : decode b_M_movesOn 63 = .ok (.getfield 80, 3) := by decide +kernel
theorem d_M_movesOn_66 : decode b_M_movesOn 66 = .ok (.iload_n 1, 1) := by decide +kernel
theorem d_M_movesOn_67 : decode b_M_movesOn 67 = .ok (.invokevirtual 43, 3) := by decide +kernel
theorem d_M_movesOn_70 : decode b_M_movesOn 70 = .ok (.ifCond .eq 7, 3) := by decide +kernel
theorem d_M_movesOn_73 : decode b_M_movesOn 73 = .ok (.iload_n 1, 1) := by decide +kernel
theorem d_M_movesOn_74 : decode b_M_movesOn 74 = .ok (.goto 4, 3) := by decide +kernel
theorem d_M_movesOn_77 : decode b_M_movesOn 77 = .ok (.iconst 0, 1) := by decide +kernel
theorem d_M_movesOn_78 : decode b_M_movesOn 78 = .ok (.invokevirtual 87, 3) := by decide +kernel
theorem d_M_movesOn_81 : decode b_M_movesOn 81 = .ok (.goto 25, 3) := by decide +kernel
theorem d_M_movesOn_84 : decode b_M_movesOn 84 = .ok (.aload_n 0, 1) := by decide +kernel
theorem d_M_movesOn_85 : decode b_M_movesOn 85 = .ok (.aload_n 0, 1) := by decide +kernel
theorem d_M_movesOn_86 : decode b_M_movesOn 86 = .ok (.getfield 80, 3) := by decide +kernel
theorem d_M_movesOn_89 : decode b_M_movesOn 89 = .ok (.aload_n 0, 1) := by decide +kernel
theorem d_M_movesOn_90 : decode b_M_movesOn 90 = .ok (.invokevirtual 67, 3) := by decide +kernel
theorem d_M_movesOn_93 : decode b_M_movesOn 93 = .ok (.invokevirtual 43, 3) := by decide +kernel
theorem d_M_movesOn_96 : decode b_M_movesOn 96 = .ok (.ifCond .ne 10, 3) := by decide +kernel
theorem d_M_movesOn_99 : decode b_M_movesOn 99 = .ok (.aload_n 0, 1) := by decide +kernel
theorem d_M_movesOn_100 : decode b_M_movesOn 100 = .ok (.invokevirtual 77, 3) := by decide +kernel
theorem d_M_movesOn_103 : decode b_M_movesOn 103 = .ok (.goto (-19), 3) := by decide +kernel
theorem d_M_movesOn_106 : decode b_M_movesOn 106 = .ok (.aload_n 0, 1) := by decide +kernel
theorem d_M_movesOn_107 : decode b_M_movesOn 107 = .ok (.aload_n 0, 1) := by decide +kernel
theorem d_M_movesOn_108 : decode b_M_movesOn 108 = .ok (.invokevirtual 67, 3) := by decide +kernel
theorem d_M_movesOn_111 : decode b_M_movesOn 111 = .ok (.putfield 97, 3) := by decide +kernel
theorem d_M_movesOn_114 : decode b_M_movesOn 114 = .ok (.iconst 1, 1) := by decide +kernel
theorem d_M_movesOn_115 : decode b_M_movesOn 115 = .ok (.ireturn, 1) := by decide +kernel
theorem d_M_orient_0 : decode b_M_orient 0 = .ok (.aload_n 0, 1) := by decide +kernel
theorem d_M_orient_1 : decode b_M_orient 1 = .ok (.iload_n 1, 1) := by decide +kernel
theorem d_M_orient_2 : decode b_M_orient 2 = .ok (.putfield 94, 3) := by decide +kernel
theorem d_M_orient_5 : decode b_M_orient 5 = .ok (.aload_n 0, 1) := by decide +kernel
theorem d_M_orient_6 : decode b_M_orient 6 = .ok (.iload_n 1, 1) := by decide +kernel
theorem d_M_orient_7 : decode b_M_orient 7 = .ok (.iconst 1, 1) := by decide +kernel
theorem d_M_orient_8 : decode b_M_orient 8 = .ok (.if_icmp .ne 13, 3) := by decide +kernel
theorem d_M_orient_11 : decode b_M_orient 11 = .ok (.aload_n 0, 1) := by decide +kernel
theorem d_M_orient_12 : decode b_M_orient 12 = .ok (.getfield 97, 3) := by decide +kernel
theorem d_M_orient_15 : decode b_M_orient 15 = .ok (.bipush 20, 2) := by decide +kernel
theorem d_M_orient_17 : decode b_M_orient 17 = .ok (.iadd, 1) := by decide +kernel
theorem d_M_orient_18 : decode b_M_orient 18 = .ok (.goto 43, 3) := by decide +kernel
theorem d_M_orient_21 : decode b_M_orient 21 = .ok (.iload_n 1, 1) := by decide +kernel
theorem d_M_orient_22 : decode b_M_orient 22 = .ok (.iconst 2, 1) := by decide +kernel
theorem d_M_orient_23 : decode b_M_orient 23 = .ok (.if_icmp .ne 26, 3) := by decide +kernel
theorem d_M_orient_26 : decode b_M_orient 26 = .ok (.aload_n 0, 1) := by decide +kernel
theorem d_M_orient_27 : decode b_M_orient 27 = .ok (.getfield 97, 3) := by decide +kernel
theorem d_M_orient_30 : decode b_M_orient 30 = .ok (.bipush 20, 2) := by decide +kernel
theorem d_M_orient_32 : decode b_M_orient 32 = .ok (.iadd, 1) := by decide +kernel
theorem d_M_orient_33 : decode b_M_orient 33 = .ok (.aload_n 0, 1) := by decide +kernel
theorem d_M_orient_34 : decode b_M_orient 34 = .ok (.aload_n 0, 1) := by decide +kernel
theorem d_M_orient_35 : decode b_M_orient 35 = .ok (.getfield 80, 3) := by decide +kernel
theorem d_M_orient_38 : decode b_M_orient 38 = .ok (.aload_n 0, 1) := by decide +kernel
theorem d_M_orient_39 : decode b_M_orient 39 = .ok (.getfield 97, 3) := by decide +kernel
theorem d_M_orient_42 : decode b_M_orient 42 = .ok (.invokevirtual 36, 3) := by decide +kernel
theorem d_M_orient_45 : decode b_M_orient 45 = .ok (.iadd, 1) := by decide +kernel
theorem d_M_orient_46 : decode b_M_orient 46 = .ok (.goto 15, 3) := by decide +kernel
theorem d_M_orient_49 : decode b_M_orient 49 = .ok (.aload_n 0, 1) := by decide +kernel
theorem d_M_orient_50 : decode b_M_orient 50 = .ok (.aload_n 0, 1) := by decide +kernel
theorem d_M_orient_51 : decode b_M_orient 51 = .ok (.getfield 80, 3) := by decide +kernel
theorem d_M_orient_54 : decode b_M_orient 54 = .ok (.aload_n 0, 1) := by decide +kernel
theorem d_M_orient_55 : decode b_M_orient 55 = .ok (.getfield 97, 3) := by decide +kernel
theorem d_M_orient_58 : decode b_M_orient 58 = .ok (.invokevirtual 47, 3) := by decide +kernel
theorem d_M_orient_61 : decode b_M_orient 61 = .ok (.invokevirtual 87, 3) := by decide +kernel
theorem d_M_orient_64 : decode b_M_orient 64 = .ok (.return_, 1) := by decide +kernel
theorem d_M_isRow_0 : decode b_M_isRow 0 = .ok (.iload_n 1, 1) := by decide +kernel
theorem d_M_isRow_1 : decode b_M_isRow 1 = .ok (.invokestatic 57, 3) := by decide +kernel
theorem d_M_isRow_4 : decode b_M_isRow 4 = .ok (.ifCond .eq 16, 3) := by decide +kernel
theorem d_M_isRow_7 : decode b_M_isRow 7 = .ok (.iload_n 1, 1) := by decide +kernel
theorem d_M_isRow_8 : decode b_M_isRow 8 = .ok (.iload_n 2, 1) := by decide +kernel
theorem d_M_isRow_9 : decode b_M_isRow 9 = .ok (.iadd, 1) := by decide +kernel
theorem d_M_isRow_10 : decode b_M_isRow 10 = .ok (.sipush 256, 3) := by decide +kernel
theorem d_M_isRow_13 : decode b_M_isRow 13 = .ok (.if_icmp .gt 7, 3) := by decide +kernel
theorem d_M_isRow_16 : decode b_M_isRow 16 = .ok (.iconst 1, 1) := by decide +kernel
theorem d_M_isRow_17 : decode b_M_isRow 17 = .ok (.goto 4, 3) := by decide +kernel
theorem d_M_isRow_20 : decode b_M_isRow 20 = .ok (.iconst 0, 1) := by decide +kernel
theorem d_M_isRow_21 : decode b_M_isRow 21 = .ok (.ireturn, 1) := by decide +kernel
theorem d_M_isSo_0 : decode b_M_isSo 0 = .ok (.aload_n 0, 1) := by decide +kernel
theorem d_M_isSo_1 : decode b_M_isSo 1 = .ok (.getfield 20, 3) := by decide +kernel
theorem d_M_isSo_4 : decode b_M_isSo 4 = .ok (.iload_n 1, 1) := by decide +kernel
theorem d_M_isSo_5 : decode b_M_isSo 5 = .ok (.iaload, 1) := by decide +kernel
theorem d_M_isSo_6 : decode b_M_isSo 6 = .ok (.istore_n 3, 1) := by decide +kernel
theorem d_M_isSo_7 : decode b_M_isSo 7 = .ok (.aload_n 0, 1) := by decide +kernel
theorem d_M_isSo_8 : decode b_M_isSo 8 = .ok (.getfield 23, 3) := by decide +kernel
theorem d_M_isSo_11 : decode b_M_isSo 11 = .ok (.iload_n 1, 1) := by decide +kernel
theorem d_M_isSo_12 : decode b_M_isSo 12 = .ok (.iaload, 1) := by decide +kernel
theorem d_M_isSo_13 : decode b_M_isSo 13 = .ok (.istore 4, 2) := by decide +kernel
theorem d_M_isSo_15 : decode b_M_isSo 15 = .ok (.aload_n 0, 1) := by decide +kernel
theorem d_M_isSo_16 : decode b_M_isSo 16 = .ok (.getfield 26, 3) := by decide +kernel
theorem d_M_isSo_19 : decode b_M_isSo 19 = .ok (.iload_n 1, 1) := by decide +kernel
theorem d_M_isSo_20 : decode b_M_isSo 20 = .ok (.iaload, 1) := by decide +kernel
theorem d_M_isSo_21 : decode b_M_isSo 21 = .ok (.istore 5, 2) := by decide +kernel
theorem d_M_isSo_23 : decode b_M_isSo 23 = .ok (.iload_n 3, 1) := by decide +kernel
theorem d_M_isSo_24 : decode b_M_isSo 24 = .ok (.tableswitch 285 0 11 #[64, 285, 82, 82, 111, 159, 167, 167, 167, 196, 285, 266], 64) := by decide +kernel
theorem d_M_isSo_88 : decode b_M_isSo 88 = .ok (.iload 4, 2) := by decide +kernel
theorem d_M_isSo_90 : decode b_M_isSo 90 = .ok (.ifCond .lt 14, 3) := by decide +kernel
theorem d_M_isSo_93 : decode b_M_isSo 93 = .ok (.iload 4, 2) := by decide +kernel
theorem d_M_isSo_95 : decode b_M_isSo 95 = .ok (.bipush 32, 2) := by decide +kernel
theorem d_M_isSo_97 : decode b_M_isSo 97 = .ok (.if_icmp .ge 7, 3) := by decide +kernel
theorem d_M_isSo_100 : decode b_M_isSo 100 = .ok (.iconst 1, 1) := by decide +kernel
theorem d_M_isSo_101 : decode b_M_isSo 101 = .ok (.goto 4, 3) := by decide +kernel
theorem d_M_isSo_104 : decode b_M_isSo 104 = .ok (.iconst 0, 1) := by decide +kernel
theorem d_M_isSo_105 : decode b_M_isSo 105 = .ok (.ireturn, 1) := by decide +kernel
theorem d_M_isSo_106 : decode b_M_isSo 106 = .ok (.iload 5, 2) := by decide +kernel
theorem d_M_isSo_108 : decode b_M_isSo 108 = .ok (.ifCond .lt 25, 3) := by decide +kernel
theorem d_M_isSo_111 : decode b_M_isSo 111 = .ok (.iload 5, 2) := by decide +kernel
theorem d_M_isSo_113 : decode b_M_isSo 113 = .ok (.bipush 8, 2) := by decide +kernel
theorem d_M_isSo_115 : decode b_M_isSo 115 = .ok (.if_icmp .gt 18, 3) := by decide +kernel
theorem d_M_isSo_118 : decode b_M_isSo 118 = .ok (.aload_n 0, 1) := by decide +kernel
theorem d_M_isSo_119 : decode b_M_isSo 119 = .ok (.iload 4, 2) := by decide +kernel
theorem d_M_isSo_121 : decode b_M_isSo 121 = .ok (.iload 5, 2) := by decide +kernel
theorem d_M_isSo_123 : decode b_M_isSo 123 = .ok (.invokevirtual 100, 3) := by decide +kernel
theorem d_M_isSo_126 : decode b_M_isSo 126 = .ok (.ifCond .eq 7, 3) := by decide +kernel
theorem d_M_isSo_129 : decode b_M_isSo 129 = .ok (.iconst 1, 1) := by decide +kernel
theorem d_M_isSo_130 : decode b_M_isSo 130 = .ok (.goto 4, 3) := by decide +kernel
theorem d_M_isSo_133 : decode b_M_isSo 133 = .ok (.iconst 0, 1) := by decide +kernel
theorem d_M_isSo_134 : decode b_M_isSo 134 = .ok (.ireturn, 1) := by decide +kernel
theorem d_M_isSo_135 : decode b_M_isSo 135 = .ok (.iload 4, 2) := by decide +kernel
theorem d_M_isSo_137 : decode b_M_isSo 137 = .ok (.ifCond .lt 44, 3) := by decide +kernel
theorem d_M_isSo_140 : decode b_M_isSo 140 = .ok (.iload 4, 2) := by decide +kernel
theorem d_M_isSo_142 : decode b_M_isSo 142 = .ok (.iload_n 1, 1) := by decide +kernel
theorem d_M_isSo_143 : decode b_M_isSo 143 = .ok (.if_icmp .gt 38, 3) := by decide +kernel
theorem d_M_isSo_146 : decode b_M_isSo 146 = .ok (.iload_n 1, 1) := by decide +kernel
theorem d_M_isSo_147 : decode b_M_isSo 147 = .ok (.ifCond .le 34, 3) := by decide +kernel
theorem d_M_isSo_150 : decode b_M_isSo 150 = .ok (.iload_n 2, 1) := by decide +kernel
theorem d_M_isSo_151 : decode b_M_isSo 151 = .ok (.iload_n 1, 1) := by decide +kernel
theorem d_M_isSo_152 : decode b_M_isSo 152 = .ok (.iconst 1, 1) := by decide +kernel
theorem d_M_isSo_153 : decode b_M_isSo 153 = .ok (.isub, 1) := by decide +kernel
theorem d_M_isSo_154 : decode b_M_isSo 154 = .ok (.if_icmp .ne 27, 3) := by decide +kernel
theorem d_M_isSo_157 : decode b_M_isSo 157 = .ok (.aload_n 0, 1) := by decide +kernel
theorem d_M_isSo_158 : decode b_M_isSo 158 = .ok (.getfield 20, 3) := by decide +kernel
theorem d_M_isSo_161 : decode b_M_isSo 161 = .ok (.iload_n 2, 1) := by decide +kernel
theorem d_M_isSo_162 : decode b_M_isSo 162 = .ok (.iaload, 1) := by decide +kernel
theorem d_M_isSo_163 : decode b_M_isSo 163 = .ok (.iconst 1, 1) := by decide +kernel
theorem d_M_isSo_164 : decode b_M_isSo 164 = .ok (.if_icmp .lt 17, 3) := by decide +kernel
theorem d_M_isSo_167 : decode b_M_isSo 167 = .ok (.aload_n 0, 1) := by decide +kernel
theorem d_M_isSo_168 : decode b_M_isSo 168 = .ok (.getfield 20, 3) := by decide +kernel
theorem d_M_isSo_171 : decode b_M_isSo 171 = .ok (.iload_n 2, 1) := by decide +kernel
theorem d_M_isSo_172 : decode b_M_isSo 172 = .ok (.iaload, 1) := by decide +kernel
theorem d_M_isSo_173 : decode b_M_isSo 173 = .ok (.iconst 3, 1) := by decide +kernel
theorem d_M_isSo_174 : decode b_M_isSo 174 = .ok (.if_icmp .gt 7, 3) := by decide +kernel
theorem d_M_isSo_177 : decode b_M_isSo 177 = .ok (.iconst 1, 1) := by decide +kernel
theorem d_M_isSo_178 : decode b_M_isSo 178 = .ok (.goto 4, 3) := by decide +kernel
theorem d_M_isSo_181 : decode b_M_isSo 181 = .ok (.iconst 0, 1) := by decide +kernel
theorem d_M_isSo_182 : decode b_M_isSo 182 = .ok (.ireturn, 1) := by decide +kernel
theorem d_M_isSo_183 : decode b_M_isSo 183 = .ok (.aload_n 0, 1) := by decide +kernel
theorem d_M_isSo_184 : decode b_M_isSo 184 = .ok (.iload 4, 2) := by decide +kernel
theorem d_M_isSo_186 : decode b_M_isSo 186 = .ok (.iconst 4, 1) := by decide +kernel
theorem d_M_isSo_187 : decode b_M_isSo 187 = .ok (.invokevirtual 100, 3) := by decide +kernel
theorem d_M_isSo_190 : decode b_M_isSo 190 = .ok (.ireturn, 1) := by decide +kernel
theorem d_M_isSo_191 : decode b_M_isSo 191 = .ok (.iload 5, 2) := by decide +kernel
theorem d_M_isSo_193 : decode b_M_isSo 193 = .ok (.ifCond .lt 25, 3) := by decide +kernel
theorem d_M_isSo_196 : decode b_M_isSo 196 = .ok (.iload 5, 2) := by decide +kernel
theorem d_M_isSo_198 : decode b_M_isSo 198 = .ok (.bipush 60, 2) := by decide +kernel
theorem d_M_isSo_200 : decode b_M_isSo 200 = .ok (.if_icmp .gt 18, 3) := by decide +kernel
theorem d_M_isSo_203 : decode b_M_isSo 203 = .ok (.aload_n 0, 1) := by decide +kernel
theorem d_M_isSo_204 : decode b_M_isSo 204 = .ok (.iload 4, 2) := by decide +kernel
theorem d_M_isSo_206 : decode b_M_isSo 206 = .ok (.iload 5, 2) := by decide +kernel
theorem d_M_isSo_208 : decode b_M_isSo 208 = .ok (.invokevirtual 100, 3) := by decide +kernel
theorem d_M_isSo_211 : decode b_M_isSo 211 = .ok (.ifCond .eq 7, 3) := by decide +kernel
theorem d_M_isSo_214 : decode b_M_isSo 214 = .ok (.iconst 1, 1) := by decide +kernel
theorem d_M_isSo_215 : decode b_M_isSo 215 = .ok (.goto 4, 3) := by decide +kernel
theorem d_M_isSo_218 : decode b_M_isSo 218 = .ok (.iconst 0, 1) := by decide +kernel
theorem d_M_isSo_219 : decode b_M_isSo 219 = .ok (.ireturn, 1) := by decide +kernel
theorem d_M_isSo_220 : decode b_M_isSo 220 = .ok (.aload_n 0, 1) := by decide +kernel
theorem d_M_isSo_221 : decode b_M_isSo 221 = .ok (.iload 4, 2) := by decide +kernel
theorem d_M_isSo_223 : decode b_M_isSo 223 = .ok (.iconst 2, 1) := by decide +kernel
theorem d_M_isSo_224 : decode b_M_isSo 224 = .ok (.invokevirtual 100, 3) := by decide +kernel
theorem d_M_isSo_227 : decode b_M_isSo 227 = .ok (.ifCond .eq 61, 3) := by decide +kernel
theorem d_M_isSo_230 : decode b_M_isSo 230 = .ok (.aload_n 0, 1) := by decide +kernel
theorem d_M_isSo_231 : decode b_M_isSo 231 = .ok (.getfield 16, 3) := by decide +kernel
theorem d_M_isSo_234 : decode b_M_isSo 234 = .ok (.iload 4, 2) := by decide +kernel
theorem d_M_isSo_236 : decode b_M_isSo 236 = .ok (.iaload, 1) := by decide +kernel
theorem d_M_isSo_237 : decode b_M_isSo 237 = .ok (.bipush 8, 2) := by decide +kernel
theorem d_M_isSo_239 : decode b_M_isSo 239 = .ok (.if_icmp .gt 49, 3) := by decide +kernel
theorem d_M_isSo_242 : decode b_M_isSo 242 = .ok (.aload_n 0, 1) := by decide +kernel
theorem d_M_isSo_243 : decode b_M_isSo 243 = .ok (.getfield 16, 3) := by decide +kernel
theorem d_M_isSo_246 : decode b_M_isSo 246 = .ok (.iload 4, 2) := by decide +kernel
theorem d_M_isSo_248 : decode b_M_isSo 248 = .ok (.iconst 1, 1) := by decide +kernel
theorem d_M_isSo_249 : decode b_M_isSo 249 = .ok (.iadd, 1) := by decide +kernel
theorem d_M_isSo_250 : decode b_M_isSo 250 = .ok (.iaload, 1) := by decide +kernel
theorem d_M_isSo_251 : decode b_M_isSo 251 = .ok (.bipush 60, 2) := by decide +kernel
theorem d_M_isSo_253 : decode b_M_isSo 253 = .ok (.if_icmp .gt 35, 3) := by decide +kernel
theorem d_M_isSo_256 : decode b_M_isSo 256 = .ok (.iload 4, 2) := by decide +kernel
theorem d_M_isSo_258 : decode b_M_isSo 258 = .ok (.iconst 2, 1) := by decide +kernel
theorem d_M_isSo_259 : decode b_M_isSo 259 = .ok (.iadd, 1) := by decide +kernel
theorem d_M_isSo_260 : decode b_M_isSo 260 = .ok (.aload_n 0, 1) := by decide +kernel
theorem d_M_isSo_261 : decode b_M_isSo 261 = .ok (.getfield 16, 3) := by decide +kernel
theorem d_M_isSo_264 : decode b_M_isSo 264 = .ok (.iload 4, 2) := by decide +kernel
theorem d_M_isSo_266 : decode b_M_isSo 266 = .ok (.iaload, 1) := by decide +kernel
theorem d_M_isSo_267 : decode b_M_isSo 267 = .ok (.iadd, 1) := by decide +kernel
theorem d_M_isSo_268 : decode b_M_isSo 268 = .ok (.aload_n 0, 1) := by decide +kernel
theorem d_M_isSo_269 : decode b_M_isSo 269 = .ok (.getfield 16, 3) := by decide +kernel
theorem d_M_isSo_272 : decode b_M_isSo 272 = .ok (.iload 4, 2) := by decide +kernel
theorem d_M_isSo_274 : decode b_M_isSo 274 = .ok (.iconst 1, 1) := by decide +kernel
theorem d_M_isSo_275 : decode b_M_isSo 275 = .ok (.iadd, 1) := by decide +kernel
theorem d_M_isSo_276 : decode b_M_isSo 276 = .ok (.iaload, 1) := by decide +kernel
theorem d_M_isSo_277 : decode b_M_isSo 277 = .ok (.iadd, 1) := by decide +kernel
theorem d_M_isSo_278 : decode b_M_isSo 278 = .ok (.sipush 256, 3) := by decide +kernel
theorem d_M_isSo_281 : decode b_M_isSo 281 = .ok (.if_icmp .gt 7, 3) := by decide +kernel
theorem d_M_isSo_284 : decode b_M_isSo 284 = .ok (.iconst 1, 1) := by decide +kernel
theorem d_M_isSo_285 : decode b_M_isSo 285 = .ok (.goto 4, 3) := by decide +kernel
theorem d_M_isSo_288 : decode b_M_isSo 288 = .ok (.iconst 0, 1) := by decide +kernel
theorem d_M_isSo_289 : decode b_M_isSo 289 = .ok (.ireturn, 1) := by decide +kernel
theorem d_M_isSo_290 : decode b_M_isSo 290 = .ok (.iload 5, 2) := by decide +kernel
theorem d_M_isSo_292 : decode b_M_isSo 292 = .ok (.ifCond .lt 15, 3) := by decide +kernel
theorem d_M_isSo_295 : decode b_M_isSo 295 = .ok (.iload 5, 2) := by decide +kernel
theorem d_M_isSo_297 : decode b_M_isSo 297 = .ok (.sipush 600, 3) := by decide +kernel
theorem d_M_isSo_300 : decode b_M_isSo 300 = .ok (.if_icmp .gt 7, 3) := by decide +kernel
theorem d_M_isSo_303 : decode b_M_isSo 303 = .ok (.iconst 1, 1) := by decide +kernel
theorem d_M_isSo_304 : decode b_M_isSo 304 = .ok (.goto 4, 3) := by decide +kernel
theorem d_M_isSo_307 : decode b_M_isSo 307 = .ok (.iconst 0, 1) := by decide +kernel
theorem d_M_isSo_308 : decode b_M_isSo 308 = .ok (.ireturn, 1) := by decide +kernel
theorem d_M_isSo_309 : decode b_M_isSo 309 = .ok (.iconst 1, 1) := by decide +kernel
theorem d_M_isSo_310 : decode b_M_isSo 310 = .ok (.ireturn, 1) := by decide +kernel
theorem d_M_seek_0 : decode b_M_seek 0 = .ok (.iload_n 1, 1) := by decide +kernel
theorem d_M_seek_1 : decode b_M_seek 1 = .ok (.aload_n 0, 1) := by decide +kernel
theorem d_M_seek_2 : decode b_M_seek 2 = .ok (.getfield 80, 3) := by decide +kernel
theorem d_M_seek_5 : decode b_M_seek 5 = .ok (.if_icmp .le 12, 3) := by decide +kernel
theorem d_M_seek_8 : decode b_M_seek 8 = .ok (.iload_n 1, 1) := by decide +kernel
theorem d_M_seek_9 : decode b_M_seek 9 = .ok (.aload_n 0, 1) := by decide +kernel
theorem d_M_seek_10 : decode b_M_seek 10 = .ok (.getfield 80, 3) := by decide +kernel
theorem d_M_seek_13 : decode b_M_seek 13 = .ok (.isub, 1) := by decide +kernel
theorem d_M_seek_14 : decode b_M_seek 14 = .ok (.goto 9, 3) := by decide +kernel
theorem d_M_seek_17 : decode b_M_seek 17 = .ok (.aload_n 0, 1) := by decide +kernel
theorem d_M_seek_18 : decode b_M_seek 18 = .ok (.getfield 80, 3) := by decide +kernel
theorem d_M_seek_21 : decode b_M_seek 21 = .ok (.iload_n 1, 1) := by decide +kernel
theorem d_M_seek_22 : decode b_M_seek 22 = .ok (.isub, 1) := by decide +kernel
theorem d_M_seek_23 : decode b_M_seek 23 = .ok (.istore_n 2, 1) := by decide +kernel
theorem d_M_seek_24 : decode b_M_seek 24 = .ok (.iconst 0, 1) := by decide +kernel
theorem d_M_seek_25 : decode b_M_seek 25 = .ok (.istore_n 3, 1) := by decide +kernel
theorem d_M_seek_26 : decode b_M_seek 26 = .ok (.iload_n 3, 1) := by decide +kernel
theorem d_M_seek_27 : decode b_M_seek 27 = .ok (.bipush 10, 2) := by decide +kernel
theorem d_M_seek_29 : decode b_M_seek 29 = .ok (.iconst 3, 1) := by decide +kernel
theorem d_M_seek_30 : decode b_M_seek 30 = .ok (.iload_n 2, 1) := by decide +kernel
theorem d_M_seek_31 : decode b_M_seek 31 = .ok (.imul, 1) := by decide +kernel
theorem d_M_seek_32 : decode b_M_seek 32 = .ok (.iadd, 1) := by decide +kernel
theorem d_M_seek_33 : decode b_M_seek 33 = .ok (.if_icmp .ge 13, 3) := by decide +kernel
theorem d_M_seek_36 : decode b_M_seek 36 = .ok (.aload_n 0, 1) := by decide +kernel
theorem d_M_seek_37 : decode b_M_seek 37 = .ok (.invokevirtual 77, 3) := by decide +kernel
theorem d_M_seek_40 : decode b_M_seek 40 = .ok (.iinc 3 1, 3) := by decide +kernel
theorem d_M_seek_43 : decode b_M_seek 43 = .ok (.goto (-17), 3) := by decide +kernel
theorem d_M_seek_46 : decode b_M_seek 46 = .ok (.aload_n 0, 1) := by decide +kernel
theorem d_M_seek_47 : decode b_M_seek 47 = .ok (.iload_n 1, 1) := by decide +kernel
theorem d_M_seek_48 : decode b_M_seek 48 = .ok (.putfield 80, 3) := by decide +kernel
theorem d_M_seek_51 : decode b_M_seek 51 = .ok (.aload_n 0, 1) := by decide +kernel
theorem d_M_seek_52 : decode b_M_seek 52 = .ok (.iconst 0, 1) := by decide +kernel
theorem d_M_seek_53 : decode b_M_seek 53 = .ok (.putfield 94, 3) := by decide +kernel
theorem d_M_seek_56 : decode b_M_seek 56 = .ok (.aload_n 0, 1) := by decide +kernel
theorem d_M_seek_57 : decode b_M_seek 57 = .ok (.iconst 0, 1) := by decide +kernel
theorem d_M_seek_58 : decode b_M_seek 58 = .ok (.putfield 74, 3) := by decide +kernel
theorem d_M_seek_61 : decode b_M_seek 61 = .ok (.return_, 1) := by decide +kernel
theorem d_M_compare_0 : decode b_M_compare 0 = .ok (.aload_n 0, 1) := by decide +kernel
theorem d_M_compare_1 : decode b_M_compare 1 = .ok (.aload_n 0, 1) := by decide +kernel
theorem d_M_compare_2 : decode b_M_compare 2 = .ok (.getfield 80, 3) := by decide +kernel
theorem d_M_compare_5 : decode b_M_compare 5 = .ok (.aload_n 0, 1) := by decide +kernel
theorem d_M_compare_6 : decode b_M_compare 6 = .ok (.getfield 97, 3) := by decide +kernel
theorem d_M_compare_9 : decode b_M_compare 9 = .ok (.invokevirtual 36, 3) := by decide +kernel
theorem d_M_compare_12 : decode b_M_compare 12 = .ok (.istore_n 3, 1) := by decide +kernel
theorem d_M_compare_13 : decode b_M_compare 13 = .ok (.iconst 0, 1) := by decide +kernel
theorem d_M_compare_14 : decode b_M_compare 14 = .ok (.istore 4, 2) := by decide +kernel
theorem d_M_compare_16 : decode b_M_compare 16 = .ok (.iload 4, 2) := by decide +kernel
theorem d_M_compare_18 : decode b_M_compare 18 = .ok (.iload_n 3, 1) := by decide +kernel
theorem d_M_compare_19 : decode b_M_compare 19 = .ok (.if_icmp .ge 49, 3) := by decide +kernel
theorem d_M_compare_22 : decode b_M_compare 22 = .ok (.iload 4, 2) := by decide +kernel
theorem d_M_compare_24 : decode b_M_compare 24 = .ok (.iload_n 2, 1) := by decide +kernel
theorem d_M_compare_25 : decode b_M_compare 25 = .ok (.if_icmp .ge 43, 3) := by decide +kernel
theorem d_M_compare_28 : decode b_M_compare 28 = .ok (.aload_n 0, 1) := by decide +kernel
theorem d_M_compare_29 : decode b_M_compare 29 = .ok (.aload_n 0, 1) := by decide +kernel
theorem d_M_compare_30 : decode b_M_compare 30 = .ok (.getfield 80, 3) := by decide +kernel
theorem d_M_compare_33 : decode b_M_compare 33 = .ok (.aload_n 0, 1) := by decide +kernel
theorem d_M_compare_34 : decode b_M_compare 34 = .ok (.getfield 97, 3) := by decide +kernel
theorem d_M_compare_37 : decode b_M_compare 37 = .ok (.iload 4, 2) := by decide +kernel
theorem d_M_compare_39 : decode b_M_compare 39 = .ok (.invokevirtual 103, 3) := by decide +kernel
theorem d_M_compare_42 : decode b_M_compare 42 = .ok (.aload_n 0, 1) := by decide +kernel
theorem d_M_compare_43 : decode b_M_compare 43 = .ok (.getfield 16, 3) := by decide +kernel
theorem d_M_compare_46 : decode b_M_compare 46 = .ok (.iload_n 1, 1) := by decide +kernel
theorem d_M_compare_47 : decode b_M_compare 47 = .ok (.iload 4, 2) := by decide +kernel
theorem d_M_compare_49 : decode b_M_compare 49 = .ok (.iadd, 1) := by decide +kernel
theorem d_M_compare_50 : decode b_M_compare 50 = .ok (.iaload, 1) := by decide +kernel
theorem d_M_compare_51 : decode b_M_compare 51 = .ok (.isub, 1) := by decide +kernel
theorem d_M_compare_52 : decode b_M_compare 52 = .ok (.istore 5, 2) := by decide +kernel
theorem d_M_compare_54 : decode b_M_compare 54 = .ok (.iload 5, 2) := by decide +kernel
theorem d_M_compare_56 : decode b_M_compare 56 = .ok (.ifCond .eq 6, 3) := by decide +kernel
theorem d_M_compare_59 : decode b_M_compare 59 = .ok (.iload 5, 2) := by decide +kernel
theorem d_M_compare_61 : decode b_M_compare 61 = .ok (.ireturn, 1) := by decide +kernel
theorem d_M_compare_62 : decode b_M_compare 62 = .ok (.iinc 4 1, 3) := by decide +kernel
theorem d_M_compare_65 : decode b_M_compare 65 = .ok (.goto (-49), 3) := by decide +kernel
theorem d_M_compare_68 : decode b_M_compare 68 = .ok (.iload_n 3, 1) := by decide +kernel
theorem d_M_compare_69 : decode b_M_compare 69 = .ok (.iload_n 2, 1) := by decide +kernel
theorem d_M_compare_70 : decode b_M_compare 70 = .ok (.isub, 1) := by decide +kernel
theorem d_M_compare_71 : decode b_M_compare 71 = .ok (.ireturn, 1) := by decide +kernel
theorem d_M_search_0 : decode b_M_search 0 = .ok (.aload_n 0, 1) := by decide +kernel
theorem d_M_search_1 : decode b_M_search 1 = .ok (.invokevirtual 107, 3) := by decide +kernel
theorem d_M_search_4 : decode b_M_search 4 = .ok (.ifCond .ne 4, 3) := by decide +kernel
theorem d_M_search_7 : decode b_M_search 7 = .ok (.return_, 1) := by decide +kernel
theorem d_M_search_8 : decode b_M_search 8 = .ok (.aload_n 0, 1) := by decide +kernel
theorem d_M_search_9 : decode b_M_search 9 = .ok (.iload_n 1, 1) := by decide +kernel
theorem d_M_search_10 : decode b_M_search 10 = .ok (.iconst 1, 1) := by decide +kernel
theorem d_M_search_11 : decode b_M_search 11 = .ok (.if_icmp .ne 7, 3) := by decide +kernel
theorem d_M_search_14 : decode b_M_search 14 = .ok (.iconst 1, 1) := by decide +kernel
theorem d_M_search_15 : decode b_M_search 15 = .ok (.goto 4, 3) := by decide +kernel
theorem d_M_search_18 : decode b_M_search 18 = .ok (.iconst 2, 1) := by decide +kernel
theorem d_M_search_19 : decode b_M_search 19 = .ok (.invokevirtual 111, 3) := by decide +kernel
theorem d_M_search_22 : decode b_M_search 22 = .ok (.iload_n 1, 1) := by decide +kernel
theorem d_M_search_23 : decode b_M_search 23 = .ok (.iconst 1, 1) := by decide +kernel
theorem d_M_search_24 : decode b_M_search 24 = .ok (.if_icmp .ne 27, 3) := by decide +kernel
theorem d_M_search_27 : decode b_M_search 27 = .ok (.aload_n 0, 1) := by decide +kernel
theorem d_M_search_28 : decode b_M_search 28 = .ok (.aload_n 0, 1) := by decide +kernel
theorem d_M_search_29 : decode b_M_search 29 = .ok (.getfield 80, 3) := by decide +kernel
theorem d_M_search_32 : decode b_M_search 32 = .ok (.aload_n 0, 1) := by decide +kernel
theorem d_M_search_33 : decode b_M_search 33 = .ok (.getfield 97, 3) := by decide +kernel
theorem d_M_search_36 : decode b_M_search 36 = .ok (.invokevirtual 114, 3) := by decide +kernel
theorem d_M_search_39 : decode b_M_search 39 = .ok (.iload_n 2, 1) := by decide +kernel
theorem d_M_search_40 : decode b_M_search 40 = .ok (.if_icmp .ne 7, 3) := by decide +kernel
theorem d_M_search_43 : decode b_M_search 43 = .ok (.iconst 1, 1) := by decide +kernel
theorem d_M_search_44 : decode b_M_search 44 = .ok (.goto 43, 3) := by decide +kernel
theorem d_M_search_47 : decode b_M_search 47 = .ok (.iconst 0, 1) := by decide +kernel
theorem d_M_search_48 : decode b_M_search 48 = .ok (.goto 39, 3) := by decide +kernel
theorem d_M_search_51 : decode b_M_search 51 = .ok (.iload_n 1, 1) := by decide +kernel
theorem d_M_search_52 : decode b_M_search 52 = .ok (.iconst 2, 1) := by decide +kernel
theorem d_M_search_53 : decode b_M_search 53 = .ok (.if_icmp .ne 20, 3) := by decide +kernel
theorem d_M_search_56 : decode b_M_search 56 = .ok (.aload_n 0, 1) := by decide +kernel
theorem d_M_search_57 : decode b_M_search 57 = .ok (.iload_n 2, 1) := by decide +kernel
theorem d_M_search_58 : decode b_M_search 58 = .ok (.iload_n 3, 1) := by decide +kernel
theorem d_M_search_59 : decode b_M_search 59 = .ok (.invokevirtual 117, 3) := by decide +kernel
theorem d_M_search_62 : decode b_M_search 62 = .ok (.ifCond .ne 7, 3) := by decide +kernel
theorem d_M_search_65 : decode b_M_search 65 = .ok (.iconst 1, 1) := by decide +kernel
theorem d_M_search_66 : decode b_M_search 66 = .ok (.goto 21, 3) := by decide +kernel
theorem d_M_search_69 : decode b_M_search 69 = .ok (.iconst 0, 1) := by decide +kernel
theorem d_M_search_70 : decode b_M_search 70 = .ok (.goto 17, 3) := by decide +kernel
theorem d_M_search_73 : decode b_M_search 73 = .ok (.aload_n 0, 1) := by decide +kernel
theorem d_M_search_74 : decode b_M_search 74 = .ok (.iload_n 2, 1) := by decide +kernel
theorem d_M_search_75 : decode b_M_search 75 = .ok (.iload_n 3, 1) := by decide +kernel
theorem d_M_search_76 : decode b_M_search 76 = .ok (.invokevirtual 117, 3) := by decide +kernel
theorem d_M_search_79 : decode b_M_search 79 = .ok (.ifCond .lt 7, 3) := by decide +kernel
theorem d_M_search_82 : decode b_M_search 82 = .ok (.iconst 1, 1) := by decide +kernel
theorem d_M_search_83 : decode b_M_search 83 = .ok (.goto 4, 3) := by decide +kernel
theorem d_M_search_86 : decode b_M_search 86 = .ok (.iconst 0, 1) := by decide +kernel
theorem d_M_search_87 : decode b_M_search 87 = .ok (.istore 4, 2) := by decide +kernel
theorem d_M_search_89 : decode b_M_search 89 = .ok (.aload_n 0, 1) := by decide +kernel
theorem d_M_search_90 : decode b_M_search 90 = .ok (.getfield 74, 3) := by decide +kernel
theorem d_M_search_93 : decode b_M_search 93 = .ok (.iconst 3, 1) := by decide +kernel
theorem d_M_search_94 : decode b_M_search 94 = .ok (.if_icmp .lt 8, 3) := by decide +kernel
theorem d_M_search_97 : decode b_M_search 97 = .ok (.aload_n 0, 1) := by decide +kernel
theorem d_M_search_98 : decode b_M_search 98 = .ok (.iconst 1, 1) := by decide +kernel
theorem d_M_search_99 : decode b_M_search 99 = .ok (.putfield 91, 3) := by decide +kernel
theorem d_M_search_102 : decode b_M_search 102 = .ok (.aload_n 0, 1) := by decide +kernel
theorem d_M_search_103 : decode b_M_search 103 = .ok (.dup, 1) := by decide +kernel
theorem d_M_search_104 : decode b_M_search 104 = .ok (.getfield 120, 3) := by decide +kernel
theorem d_M_search_107 : decode b_M_search 107 = .ok (.iload 4, 2) := by decide +kernel
theorem d_M_search_109 : decode b_M_search 109 = .ok (.ifCond .eq 7, 3) := by decide +kernel
theorem d_M_search_112 : decode b_M_search 112 = .ok (.iconst 1, 1) := by decide +kernel
theorem d_M_search_113 : decode b_M_search 113 = .ok (.goto 4, 3) := by decide +kernel
theorem d_M_search_116 : decode b_M_search 116 = .ok (.iconst 0, 1) := by decide +kernel
theorem d_M_search_117 : decode b_M_search 117 = .ok (.iadd, 1) := by decide +kernel
theorem d_M_search_118 : decode b_M_search 118 = .ok (.putfield 120, 3) := by decide +kernel
theorem d_M_search_121 : decode b_M_search 121 = .ok (.return_, 1) := by decide +kernel
theorem d_M_readCount_0 : decode b_M_readCount 0 = .ok (.aload_n 0, 1) := by decide +kernel
theorem d_M_readCount_1 : decode b_M_readCount 1 = .ok (.invokevirtual 107, 3) := by decide +kernel
theorem d_M_readCount_4 : decode b_M_readCount 4 = .ok (.ifCond .ne 4, 3) := by decide +kernel
theorem d_M_readCount_7 : decode b_M_readCount 7 = .ok (.return_, 1) := by decide +kernel
theorem d_M_readCount_8 : decode b_M_readCount 8 = .ok (.aload_n 0, 1) := by decide +kernel
theorem d_M_readCount_9 : decode b_M_readCount 9 = .ok (.iconst 1, 1) := by decide +kernel
theorem d_M_readCount_10 : decode b_M_readCount 10 = .ok (.invokevirtual 111, 3) := by decide +kernel
theorem d_M_readCount_13 : decode b_M_readCount 13 = .ok (.aload_n 0, 1) := by decide +kernel
theorem d_M_readCount_14 : decode b_M_readCount 14 = .ok (.getfield 16, 3) := by decide +kernel
theorem d_M_readCount_17 : decode b_M_readCount 17 = .ok (.iload_n 1, 1) := by decide +kernel
theorem d_M_readCount_18 : decode b_M_readCount 18 = .ok (.aload_n 0, 1) := by decide +kernel
theorem d_M_readCount_19 : decode b_M_readCount 19 = .ok (.getfield 80, 3) := by decide +kernel
theorem d_M_readCount_22 : decode b_M_readCount 22 = .ok (.iastore, 1) := by decide +kernel
theorem d_M_readCount_23 : decode b_M_readCount 23 = .ok (.aload_n 0, 1) := by decide +kernel
theorem d_M_readCount_24 : decode b_M_readCount 24 = .ok (.getfield 16, 3) := by decide +kernel
theorem d_M_readCount_27 : decode b_M_readCount 27 = .ok (.iload_n 1, 1) := by decide +kernel
theorem d_M_readCount_28 : decode b_M_readCount 28 = .ok (.iconst 1, 1) := by decide +kernel
theorem d_M_readCount_29 : decode b_M_readCount 29 = .ok (.iadd, 1) := by decide +kernel
theorem d_M_readCount_30 : decode b_M_readCount 30 = .ok (.aload_n 0, 1) := by decide +kernel
theorem d_M_readCount_31 : decode b_M_readCount 31 = .ok (.aload_n 0, 1) := by decide +kernel
theorem d_M_readCount_32 : decode b_M_readCount 32 = .ok (.getfield 80, 3) := by decide +kernel
theorem d_M_readCount_35 : decode b_M_readCount 35 = .ok (.aload_n 0, 1) := by decide +kernel
theorem d_M_readCount_36 : decode b_M_readCount 36 = .ok (.getfield 97, 3) := by decide +kernel
theorem d_M_readCount_39 : decode b_M_readCount 39 = .ok (.invokevirtual 114, 3) := by decide +kernel
theorem d_M_readCount_42 : decode b_M_readCount 42 = .ok (.iastore, 1) := by decide +kernel
theorem d_M_readCount_43 : decode b_M_readCount 43 = .ok (.aload_n 0, 1) := by decide +kernel
theorem d_M_readCount_44 : decode b_M_readCount 44 = .ok (.getfield 16, 3) := by decide +kernel
theorem d_M_readCount_47 : decode b_M_readCount 47 = .ok (.iload_n 1, 1) := by decide +kernel
theorem d_M_readCount_48 : decode b_M_readCount 48 = .ok (.iconst 2, 1) := by decide +kernel
theorem d_M_readCount_49 : decode b_M_readCount 49 = .ok (.iadd, 1) := by decide +kernel
theorem d_M_readCount_50 : decode b_M_readCount 50 = .ok (.aload_n 0, 1) := by decide +kernel
theorem d_M_readCount_51 : decode b_M_readCount 51 = .ok (.aload_n 0, 1) := by decide +kernel
theorem d_M_readCount_52 : decode b_M_readCount 52 = .ok (.getfield 80, 3) := by decide +kernel
theorem d_M_readCount_55 : decode b_M_readCount 55 = .ok (.aload_n 0, 1) := by decide +kernel
theorem d_M_readCount_56 : decode b_M_readCount 56 = .ok (.getfield 97, 3) := by decide +kernel
theorem d_M_readCount_59 : decode b_M_readCount 59 = .ok (.invokevirtual 36, 3) := by decide +kernel
theorem d_M_readCount_62 : decode b_M_readCount 62 = .ok (.iastore, 1) := by decide +kernel
theorem d_M_readCount_63 : decode b_M_readCount 63 = .ok (.aload_n 0, 1) := by decide +kernel
theorem d_M_readCount_64 : decode b_M_readCount 64 = .ok (.getfield 16, 3) := by decide +kernel
theorem d_M_readCount_67 : decode b_M_readCount 67 = .ok (.iload_n 1, 1) := by decide +kernel
theorem d_M_readCount_68 : decode b_M_readCount 68 = .ok (.iconst 3, 1) := by decide +kernel
theorem d_M_readCount_69 : decode b_M_readCount 69 = .ok (.iadd, 1) := by decide +kernel
theorem d_M_readCount_70 : decode b_M_readCount 70 = .ok (.aload_n 0, 1) := by decide +kernel
theorem d_M_readCount_71 : decode b_M_readCount 71 = .ok (.aload_n 0, 1) := by decide +kernel
theorem d_M_readCount_72 : decode b_M_readCount 72 = .ok (.getfield 80, 3) := by decide +kernel
theorem d_M_readCount_75 : decode b_M_readCount 75 = .ok (.aload_n 0, 1) := by decide +kernel
theorem d_M_readCount_76 : decode b_M_readCount 76 = .ok (.getfield 97, 3) := by decide +kernel
theorem d_M_readCount_79 : decode b_M_readCount 79 = .ok (.invokevirtual 40, 3) := by decide +kernel
theorem d_M_readCount_82 : decode b_M_readCount 82 = .ok (.iastore, 1) := by decide +kernel
theorem d_M_readCount_83 : decode b_M_readCount 83 = .ok (.aload_n 0, 1) := by decide +kernel
theorem d_M_readCount_84 : decode b_M_readCount 84 = .ok (.getfield 74, 3) := by decide +kernel
theorem d_M_readCount_87 : decode b_M_readCount 87 = .ok (.iconst 3, 1) := by decide +kernel
theorem d_M_readCount_88 : decode b_M_readCount 88 = .ok (.if_icmp .lt 8, 3) := by decide +kernel
theorem d_M_readCount_91 : decode b_M_readCount 91 = .ok (.aload_n 0, 1) := by decide +kernel
theorem d_M_readCount_92 : decode b_M_readCount 92 = .ok (.iconst 1, 1) := by decide +kernel
theorem d_M_readCount_93 : decode b_M_readCount 93 = .ok (.putfield 91, 3) := by decide +kernel
theorem d_M_readCount_96 : decode b_M_readCount 96 = .ok (.return_, 1) := by decide +kernel
theorem d_M_transfer_0 : decode b_M_transfer 0 = .ok (.iload_n 1, 1) := by decide +kernel
theorem d_M_transfer_1 : decode b_M_transfer 1 = .ok (.bipush 6, 2) := by decide +kernel
theorem d_M_transfer_3 : decode b_M_transfer 3 = .ok (.if_icmp .ne 7, 3) := by decide +kernel
theorem d_M_transfer_6 : decode b_M_transfer 6 = .ok (.iconst 1, 1) := by decide +kernel
theorem d_M_transfer_7 : decode b_M_transfer 7 = .ok (.goto 4, 3) := by decide +kernel
theorem d_M_transfer_10 : decode b_M_transfer 10 = .ok (.iconst 0, 1) := by decide +kernel
theorem d_M_transfer_11 : decode b_M_transfer 11 = .ok (.istore 4, 2) := by decide +kernel
theorem d_M_transfer_13 : decode b_M_transfer 13 = .ok (.iload 4, 2) := by decide +kernel
theorem d_M_transfer_15 : decode b_M_transfer 15 = .ok (.ifCond .eq 19, 3) := by decide +kernel
theorem d_M_transfer_18 : decode b_M_transfer 18 = .ok (.aload_n 0, 1) := by decide +kernel
theorem d_M_transfer_19 : decode b_M_transfer 19 = .ok (.getfield 94, 3) := by decide +kernel
theorem d_M_transfer_22 : decode b_M_transfer 22 = .ok (.iconst 1, 1) := by decide +kernel
theorem d_M_transfer_23 : decode b_M_transfer 23 = .ok (.if_icmp .ne 7, 3) := by decide +kernel
theorem d_M_transfer_26 : decode b_M_transfer 26 = .ok (.iconst 1, 1) := by decide +kernel
theorem d_M_transfer_27 : decode b_M_transfer 27 = .ok (.goto 28, 3) := by decide +kernel
theorem d_M_transfer_30 : decode b_M_transfer 30 = .ok (.iconst 0, 1) := by decide +kernel
theorem d_M_transfer_31 : decode b_M_transfer 31 = .ok (.goto 24, 3) := by decide +kernel
theorem d_M_transfer_34 : decode b_M_transfer 34 = .ok (.aload_n 0, 1) := by decide +kernel
theorem d_M_transfer_35 : decode b_M_transfer 35 = .ok (.getfield 94, 3) := by decide +kernel
theorem d_M_transfer_38 : decode b_M_transfer 38 = .ok (.iconst 1, 1) := by decide +kernel
theorem d_M_transfer_39 : decode b_M_transfer 39 = .ok (.if_icmp .eq 11, 3) := by decide +kernel
theorem d_M_transfer_42 : decode b_M_transfer 42 = .ok (.aload_n 0, 1) := by decide +kernel
theorem d_M_transfer_43 : decode b_M_transfer 43 = .ok (.getfield 94, 3) := by decide +kernel
theorem d_M_transfer_46 : decode b_M_transfer 46 = .ok (.iconst 2, 1) := by decide +kernel
theorem d_M_transfer_47 : decode b_M_transfer 47 = .ok (.if_icmp .ne 7, 3) := by decide +kernel
theorem d_M_transfer_50 : decode b_M_transfer 50 = .ok (.iconst 1, 1) := by decide +kernel
theorem d_M_transfer_51 : decode b_M_transfer 51 = .ok (.goto 4, 3) := by decide +kernel
theorem d_M_transfer_54 : decode b_M_transfer 54 = .ok (.iconst 0, 1) := by decide +kernel
theorem d_M_transfer_55 : decode b_M_transfer 55 = .ok (.istore 5, 2) := by decide +kernel
theorem d_M_transfer_57 : decode b_M_transfer 57 = .ok (.iload 5, 2) := by decide +kernel
theorem d_M_transfer_59 : decode b_M_transfer 59 = .ok (.ifCond .ne 11, 3) := by decide +kernel
theorem d_M_transfer_62 : decode b_M_transfer 62 = .ok (.aload_n 0, 1) := by decide +kernel
theorem d_M_transfer_63 : decode b_M_transfer 63 = .ok (.invokevirtual 107, 3) := by decide +kernel
theorem d_M_transfer_66 : decode b_M_transfer 66 = .ok (.ifCond .ne 4, 3) := by decide +kernel
theorem d_M_transfer_69 : decode b_M_transfer 69 = .ok (.return_, 1) := by decide +kernel
theorem d_M_transfer_70 : decode b_M_transfer 70 = .ok (.aload_n 0, 1) := by decide +kernel
theorem d_M_transfer_71 : decode b_M_transfer 71 = .ok (.iload 4, 2) := by decide +kernel
theorem d_M_transfer_73 : decode b_M_transfer 73 = .ok (.ifCond .eq 7, 3) := by decide +kernel
theorem d_M_transfer_76 : decode b_M_transfer 76 = .ok (.iconst 2, 1) := by decide +kernel
theorem d_M_transfer_77 : decode b_M_transfer 77 = .ok (.goto 4, 3) := by decide +kernel
theorem d_M_transfer_80 : decode b_M_transfer 80 = .ok (.iconst 3, 1) := by decide +kernel
theorem d_M_transfer_81 : decode b_M_transfer 81 = .ok (.invokevirtual 111, 3) := by decide +kernel
theorem d_M_transfer_84 : decode b_M_transfer 84 = .ok (.aload_n 0, 1) := by decide +kernel
theorem d_M_transfer_85 : decode b_M_transfer 85 = .ok (.dup, 1) := by decide +kernel
theorem d_M_transfer_86 : decode b_M_transfer 86 = .ok (.getfield 123, 3) := by decide +kernel
theorem d_M_transfer_89 : decode b_M_transfer 89 = .ok (.iconst 1, 1) := by decide +kernel
theorem d_M_transfer_90 : decode b_M_transfer 90 = .ok (.iadd, 1) := by decide +kernel
theorem d_M_transfer_91 : decode b_M_transfer 91 = .ok (.putfield 123, 3) := by decide +kernel
theorem d_M_transfer_94 : decode b_M_transfer 94 = .ok (.iload 4, 2) := by decide +kernel
theorem d_M_transfer_96 : decode b_M_transfer 96 = .ok (.ifCond .eq 18, 3) := by decide +kernel
theorem d_M_transfer_99 : decode b_M_transfer 99 = .ok (.aload_n 0, 1) := by decide +kernel
theorem d_M_transfer_100 : decode b_M_transfer 100 = .ok (.aload_n 0, 1) := by decide +kernel
theorem d_M_transfer_101 : decode b_M_transfer 101 = .ok (.getfield 80, 3) := by decide +kernel
theorem d_M_transfer_104 : decode b_M_transfer 104 = .ok (.aload_n 0, 1) := by decide +kernel
theorem d_M_transfer_105 : decode b_M_transfer 105 = .ok (.getfield 97, 3) := by decide +kernel
theorem d_M_transfer_108 : decode b_M_transfer 108 = .ok (.invokevirtual 36, 3) := by decide +kernel
theorem d_M_transfer_111 : decode b_M_transfer 111 = .ok (.goto 15, 3) := by decide +kernel
theorem d_M_transfer_114 : decode b_M_transfer 114 = .ok (.aload_n 0, 1) := by decide +kernel
theorem d_M_transfer_115 : decode b_M_transfer 115 = .ok (.aload_n 0, 1) := by decide +kernel
theorem d_M_transfer_116 : decode b_M_transfer 116 = .ok (.getfield 80, 3) := by decide +kernel
theorem d_M_transfer_119 : decode b_M_transfer 119 = .ok (.aload_n 0, 1) := by decide +kernel
theorem d_M_transfer_120 : decode b_M_transfer 120 = .ok (.getfield 97, 3) := by decide +kernel
theorem d_M_transfer_123 : decode b_M_transfer 123 = .ok (.invokevirtual 40, 3) := by decide +kernel
theorem d_M_transfer_126 : decode b_M_transfer 126 = .ok (.istore 6, 2) := by decide +kernel
theorem d_M_transfer_128 : decode b_M_transfer 128 = .ok (.iload 4, 2) := by decide +kernel
theorem d_M_transfer_130 : decode b_M_transfer 130 = .ok (.ifCond .eq 7, 3) := by decide +kernel
theorem d_M_transfer_133 : decode b_M_transfer 133 = .ok (.iconst 0, 1) := by decide +kernel
theorem d_M_transfer_134 : decode b_M_transfer 134 = .ok (.goto 15, 3) := by decide +kernel
theorem d_M_transfer_137 : decode b_M_transfer 137 = .ok (.aload_n 0, 1) := by decide +kernel
theorem d_M_transfer_138 : decode b_M_transfer 138 = .ok (.aload_n 0, 1) := by decide +kernel
theorem d_M_transfer_139 : decode b_M_transfer 139 = .ok (.getfield 80, 3) := by decide +kernel
theorem d_M_transfer_142 : decode b_M_transfer 142 = .ok (.aload_n 0, 1) := by decide +kernel
theorem d_M_transfer_143 : decode b_M_transfer 143 = .ok (.getfield 97, 3) := by decide +kernel
theorem d_M_transfer_146 : decode b_M_transfer 146 = .ok (.invokevirtual 36, 3) := by decide +kernel
theorem d_M_transfer_149 : decode b_M_transfer 149 = .ok (.istore 7, 2) := by decide +kernel
theorem d_M_transfer_151 : decode b_M_transfer 151 = .ok (.aload_n 0, 1) := by decide +kernel
theorem d_M_transfer_152 : decode b_M_transfer 152 = .ok (.iload_n 3, 1) := by decide +kernel
theorem d_M_transfer_153 : decode b_M_transfer 153 = .ok (.iload 6, 2) := by decide +kernel
theorem d_M_transfer_155 : decode b_M_transfer 155 = .ok (.isub, 1) := by decide +kernel
theorem d_M_transfer_156 : decode b_M_transfer 156 = .ok (.putfield 126, 3) := by decide +kernel
theorem d_M_transfer_159 : decode b_M_transfer 159 = .ok (.iload_n 1, 1) := by decide +kernel
theorem d_M_transfer_160 : decode b_M_transfer 160 = .ok (.bipush 7, 2) := by decide +kernel
theorem d_M_transfer_162 : decode b_M_transfer 162 = .ok (.if_icmp .ne 29, 3) := by decide +kernel
theorem d_M_transfer_165 : decode b_M_transfer 165 = .ok (.aload_n 0, 1) := by decide +kernel
theorem d_M_transfer_166 : decode b_M_transfer 166 = .ok (.aload_n 0, 1) := by decide +kernel
theorem d_M_transfer_167 : decode b_M_transfer 167 = .ok (.getfield 80, 3) := by decide +kernel
theorem d_M_transfer_170 : decode b_M_transfer 170 = .ok (.aload_n 0, 1) := by decide +kernel
theorem d_M_transfer_171 : decode b_M_transfer 171 = .ok (.getfield 97, 3) := by decide +kernel
theorem d_M_transfer_174 : decode b_M_transfer 174 = .ok (.invokevirtual 129, 3) := by decide +kernel
theorem d_M_transfer_177 : decode b_M_transfer 177 = .ok (.ifCond .eq 14, 3) := by decide +kernel
theorem d_M_transfer_180 : decode b_M_transfer 180 = .ok (.aload_n 0, 1) := by decide +kernel
theorem d_M_transfer_181 : decode b_M_transfer 181 = .ok (.iload_n 3, 1) := by decide +kernel
theorem d_M_transfer_182 : decode b_M_transfer 182 = .ok (.putfield 126, 3) := by decide +kernel
theorem d_M_transfer_185 : decode b_M_transfer 185 = .ok (.aload_n 0, 1) := by decide +kernel
theorem d_M_transfer_186 : decode b_M_transfer 186 = .ok (.iconst 4, 1) := by decide +kernel
theorem d_M_transfer_187 : decode b_M_transfer 187 = .ok (.putfield 91, 3) := by decide +kernel
theorem d_M_transfer_190 : decode b_M_transfer 190 = .ok (.return_, 1) := by decide +kernel
theorem d_M_transfer_191 : decode b_M_transfer 191 = .ok (.iload_n 1, 1) := by decide +kernel
theorem d_M_transfer_192 : decode b_M_transfer 192 = .ok (.bipush 8, 2) := by decide +kernel
theorem d_M_transfer_194 : decode b_M_transfer 194 = .ok (.if_icmp .ne 86, 3) := by decide +kernel
theorem d_M_transfer_197 : decode b_M_transfer 197 = .ok (.iload_n 3, 1) := by decide +kernel
theorem d_M_transfer_198 : decode b_M_transfer 198 = .ok (.iload 6, 2) := by decide +kernel
theorem d_M_transfer_200 : decode b_M_transfer 200 = .ok (.if_icmp .ne 16, 3) := by decide +kernel
theorem d_M_transfer_203 : decode b_M_transfer 203 = .ok (.aload_n 0, 1) := by decide +kernel
theorem d_M_transfer_204 : decode b_M_transfer 204 = .ok (.aload_n 0, 1) := by decide +kernel
theorem d_M_transfer_205 : decode b_M_transfer 205 = .ok (.getfield 80, 3) := by decide +kernel
theorem d_M_transfer_208 : decode b_M_transfer 208 = .ok (.aload_n 0, 1) := by decide +kernel
theorem d_M_transfer_209 : decode b_M_transfer 209 = .ok (.getfield 97, 3) := by decide +kernel
theorem d_M_transfer_212 : decode b_M_transfer 212 = .ok (.iconst 0, 1) := by decide +kernel
theorem d_M_transfer_213 : decode b_M_transfer 213 = .ok (.invokevirtual 132, 3) := by decide +kernel
theorem d_M_transfer_216 : decode b_M_transfer 216 = .ok (.iconst 0, 1) := by decide +kernel
theorem d_M_transfer_217 : decode b_M_transfer 217 = .ok (.istore 8, 2) := by decide +kernel
theorem d_M_transfer_219 : decode b_M_transfer 219 = .ok (.iload 8, 2) := by decide +kernel
theorem d_M_transfer_221 : decode b_M_transfer 221 = .ok (.iload 6, 2) := by decide +kernel
theorem d_M_transfer_223 : decode b_M_transfer 223 = .ok (.if_icmp .ge 41, 3) := by decide +kernel
theorem d_M_transfer_226 : decode b_M_transfer 226 = .ok (.iload_n 3, 1) := by decide +kernel
theorem d_M_transfer_227 : decode b_M_transfer 227 = .ok (.iload 6, 2) := by decide +kernel
theorem d_M_transfer_229 : decode b_M_transfer 229 = .ok (.if_icmp .ne 35, 3) := by decide +kernel
theorem d_M_transfer_232 : decode b_M_transfer 232 = .ok (.aload_n 0, 1) := by decide +kernel
theorem d_M_transfer_233 : decode b_M_transfer 233 = .ok (.aload_n 0, 1) := by decide +kernel
theorem d_M_transfer_234 : decode b_M_transfer 234 = .ok (.getfield 80, 3) := by decide +kernel
theorem d_M_transfer_237 : decode b_M_transfer 237 = .ok (.aload_n 0, 1) := by decide +kernel
theorem d_M_transfer_238 : decode b_M_transfer 238 = .ok (.getfield 97, 3) := by decide +kernel
theorem d_M_transfer_241 : decode b_M_transfer 241 = .ok (.iload 7, 2) := by decide +kernel
theorem d_M_transfer_243 : decode b_M_transfer 243 = .ok (.iload 8, 2) := by decide +kernel
theorem d_M_transfer_245 : decode b_M_transfer 245 = .ok (.iadd, 1) := by decide +kernel
theorem d_M_transfer_246 : decode b_M_transfer 246 = .ok (.aload_n 0, 1) := by decide +kernel
theorem d_M_transfer_247 : decode b_M_transfer 247 = .ok (.getfield 16, 3) := by decide +kernel
theorem d_M_transfer_250 : decode b_M_transfer 250 = .ok (.iload_n 2, 1) := by decide +kernel
theorem d_M_transfer_251 : decode b_M_transfer 251 = .ok (.iload 8, 2) := by decide +kernel
theorem d_M_transfer_253 : decode b_M_transfer 253 = .ok (.iadd, 1) := by decide +kernel
theorem d_M_transfer_254 : decode b_M_transfer 254 = .ok (.iaload, 1) := by decide +kernel
theorem d_M_transfer_255 : decode b_M_transfer 255 = .ok (.invokevirtual 136, 3) := by decide +kernel
theorem d_M_transfer_258 : decode b_M_transfer 258 = .ok (.iinc 8 1, 3) := by decide +kernel
theorem d_M_transfer_261 : decode b_M_transfer 261 = .ok (.goto (-42), 3) := by decide +kernel
theorem d_M_transfer_264 : decode b_M_transfer 264 = .ok (.aload_n 0, 1) := by decide +kernel
theorem d_M_transfer_265 : decode b_M_transfer 265 = .ok (.iload_n 3, 1) := by decide +kernel
theorem d_M_transfer_266 : decode b_M_transfer 266 = .ok (.iload 6, 2) := by decide +kernel
theorem d_M_transfer_268 : decode b_M_transfer 268 = .ok (.if_icmp .ne 7, 3) := by decide +kernel
theorem d_M_transfer_271 : decode b_M_transfer 271 = .ok (.iconst 0, 1) := by decide +kernel
theorem d_M_transfer_272 : decode b_M_transfer 272 = .ok (.goto 4, 3) := by decide +kernel
theorem d_M_transfer_275 : decode b_M_transfer 275 = .ok (.iconst 3, 1) := by decide +kernel
theorem d_M_transfer_276 : decode b_M_transfer 276 = .ok (.putfield 91, 3) := by decide +kernel
theorem d_M_transfer_279 : decode b_M_transfer 279 = .ok (.return_, 1) := by decide +kernel
theorem d_M_transfer_280 : decode b_M_transfer 280 = .ok (.iconst 0, 1) := by decide +kernel
theorem d_M_transfer_281 : decode b_M_transfer 281 = .ok (.istore 8, 2) := by decide +kernel
theorem d_M_transfer_283 : decode b_M_transfer 283 = .ok (.iload 8, 2) := by decide +kernel
theorem d_M_transfer_285 : decode b_M_transfer 285 = .ok (.iload 6, 2) := by decide +kernel
theorem d_M_transfer_287 : decode b_M_transfer 287 = .ok (.if_icmp .ge 41, 3) := by decide +kernel
theorem d_M_transfer_290 : decode b_M_transfer 290 = .ok (.iload 8, 2) := by decide +kernel
theorem d_M_transfer_292 : decode b_M_transfer 292 = .ok (.iload_n 3, 1) := by decide +kernel
theorem d_M_transfer_293 : decode b_M_transfer 293 = .ok (.if_icmp .ge 35, 3) := by decide +kernel
theorem d_M_transfer_296 : decode b_M_transfer 296 = .ok (.aload_n 0, 1) := by decide +kernel
theorem d_M_transfer_297 : decode b_M_transfer 297 = .ok (.getfield 16, 3) := by decide +kernel
theorem d_M_transfer_300 : decode b_M_transfer 300 = .ok (.iload_n 2, 1) := by decide +kernel
theorem d_M_transfer_301 : decode b_M_transfer 301 = .ok (.iload 8, 2) := by decide +kernel
theorem d_M_transfer_303 : decode b_M_transfer 303 = .ok (.iadd, 1) := by decide +kernel
theorem d_M_transfer_304 : decode b_M_transfer 304 = .ok (.aload_n 0, 1) := by decide +kernel
theorem d_M_transfer_305 : decode b_M_transfer 305 = .ok (.aload_n 0, 1) := by decide +kernel
theorem d_M_transfer_306 : decode b_M_transfer 306 = .ok (.getfield 80, 3) := by decide +kernel
theorem d_M_transfer_309 : decode b_M_transfer 309 = .ok (.aload_n 0, 1) := by decide +kernel
theorem d_M_transfer_310 : decode b_M_transfer 310 = .ok (.getfield 97, 3) := by decide +kernel
theorem d_M_transfer_313 : decode b_M_transfer 313 = .ok (.iload 7, 2) := by decide +kernel
theorem d_M_transfer_315 : decode b_M_transfer 315 = .ok (.iload 8, 2) := by decide +kernel
theorem d_M_transfer_317 : decode b_M_transfer 317 = .ok (.iadd, 1) := by decide +kernel
theorem d_M_transfer_318 : decode b_M_transfer 318 = .ok (.invokevirtual 103, 3) := by decide +kernel
theorem d_M_transfer_321 : decode b_M_transfer 321 = .ok (.iastore, 1) := by decide +kernel
theorem d_M_transfer_322 : decode b_M_transfer 322 = .ok (.iinc 8 1, 3) := by decide +kernel
theorem d_M_transfer_325 : decode b_M_transfer 325 = .ok (.goto (-42), 3) := by decide +kernel
theorem d_M_transfer_328 : decode b_M_transfer 328 = .ok (.aload_n 0, 1) := by decide +kernel
theorem d_M_transfer_329 : decode b_M_transfer 329 = .ok (.aload_n 0, 1) := by decide +kernel
theorem d_M_transfer_330 : decode b_M_transfer 330 = .ok (.getfield 126, 3) := by decide +kernel
theorem d_M_transfer_333 : decode b_M_transfer 333 = .ok (.ifCond .ge 7, 3) := by decide +kernel
theorem d_M_transfer_336 : decode b_M_transfer 336 = .ok (.iconst 3, 1) := by decide +kernel
theorem d_M_transfer_337 : decode b_M_transfer 337 = .ok (.goto 4, 3) := by decide +kernel
theorem d_M_transfer_340 : decode b_M_transfer 340 = .ok (.iconst 0, 1) := by decide +kernel
theorem d_M_transfer_341 : decode b_M_transfer 341 = .ok (.putfield 91, 3) := by decide +kernel
theorem d_M_transfer_344 : decode b_M_transfer 344 = .ok (.return_, 1) := by decide +kernel
theorem d_M_goesOn_0 : decode b_M_goesOn 0 = .ok (.aload_n 0, 1) := by decide +kernel
theorem d_M_goesOn_1 : decode b_M_goesOn 1 = .ok (.getfield 94, 3) := by decide +kernel
theorem d_M_goesOn_4 : decode b_M_goesOn 4 = .ok (.ifCond .le 18, 3) := by decide +kernel
theorem d_M_goesOn_7 : decode b_M_goesOn 7 = .ok (.aload_n 0, 1) := by decide +kernel
theorem d_M_goesOn_8 : decode b_M_goesOn 8 = .ok (.aload_n 0, 1) := by decide +kernel
theorem d_M_goesOn_9 : decode b_M_goesOn 9 = .ok (.getfield 80, 3) := by decide +kernel
theorem d_M_goesOn_12 : decode b_M_goesOn 12 = .ok (.aload_n 0, 1) := by decide +kernel
theorem d_M_goesOn_13 : decode b_M_goesOn 13 = .ok (.getfield 97, 3) := by decide +kernel
theorem d_M_goesOn_16 : decode b_M_goesOn 16 = .ok (.invokevirtual 47, 3) := by decide +kernel
theorem d_M_goesOn_19 : decode b_M_goesOn 19 = .ok (.goto 4, 3) := by decide +kernel
theorem d_M_goesOn_22 : decode b_M_goesOn 22 = .ok (.iconst 0, 1) := by decide +kernel
theorem d_M_goesOn_23 : decode b_M_goesOn 23 = .ok (.istore_n 1, 1) := by decide +kernel
theorem d_M_goesOn_24 : decode b_M_goesOn 24 = .ok (.aload_n 0, 1) := by decide +kernel
theorem d_M_goesOn_25 : decode b_M_goesOn 25 = .ok (.iload_n 1, 1) := by decide +kernel
theorem d_M_goesOn_26 : decode b_M_goesOn 26 = .ok (.invokevirtual 87, 3) := by decide +kernel
theorem d_M_goesOn_29 : decode b_M_goesOn 29 = .ok (.iload_n 1, 1) := by decide +kernel
theorem d_M_goesOn_30 : decode b_M_goesOn 30 = .ok (.ireturn, 1) := by decide +kernel
theorem d_M_writeRecord_0 : decode b_M_writeRecord 0 = .ok (.aload_n 0, 1) := by decide +kernel
theorem d_M_writeRecord_1 : decode b_M_writeRecord 1 = .ok (.invokevirtual 140, 3) := by decide +kernel
theorem d_M_writeRecord_4 : decode b_M_writeRecord 4 = .ok (.istore_n 2, 1) := by decide +kernel
theorem d_M_writeRecord_5 : decode b_M_writeRecord 5 = .ok (.aload_n 0, 1) := by decide +kernel
theorem d_M_writeRecord_6 : decode b_M_writeRecord 6 = .ok (.getfield 16, 3) := by decide +kernel
theorem d_M_writeRecord_9 : decode b_M_writeRecord 9 = .ok (.iload_n 1, 1) := by decide +kernel
theorem d_M_writeRecord_10 : decode b_M_writeRecord 10 = .ok (.iaload, 1) := by decide +kernel
theorem d_M_writeRecord_11 : decode b_M_writeRecord 11 = .ok (.istore_n 3, 1) := by decide +kernel
theorem d_M_writeRecord_12 : decode b_M_writeRecord 12 = .ok (.aload_n 0, 1) := by decide +kernel
theorem d_M_writeRecord_13 : decode b_M_writeRecord 13 = .ok (.getfield 16, 3) := by decide +kernel
theorem d_M_writeRecord_16 : decode b_M_writeRecord 16 = .ok (.iload_n 1, 1) := by decide +kernel
theorem d_M_writeRecord_17 : decode b_M_writeRecord 17 = .ok (.iconst 1, 1) := by decide +kernel
theorem d_M_writeRecord_18 : decode b_M_writeRecord 18 = .ok (.iadd, 1) := by decide +kernel
theorem d_M_writeRecord_19 : decode b_M_writeRecord 19 = .ok (.iaload, 1) := by decide +kernel
theorem d_M_writeRecord_20 : decode b_M_writeRecord 20 = .ok (.istore 4, 2) := by decide +kernel
theorem d_M_writeRecord_22 : decode b_M_writeRecord 22 = .ok (.iload_n 2, 1) := by decide +kernel
theorem d_M_writeRecord_23 : decode b_M_writeRecord 23 = .ok (.bipush 20, 2) := by decide +kernel
theorem d_M_writeRecord_25 : decode b_M_writeRecord 25 = .ok (.iadd, 1) := by decide +kernel
theorem d_M_writeRecord_26 : decode b_M_writeRecord 26 = .ok (.iload_n 3, 1) := by decide +kernel
theorem d_M_writeRecord_27 : decode b_M_writeRecord 27 = .ok (.iadd, 1) := by decide +kernel
theorem d_M_writeRecord_28 : decode b_M_writeRecord 28 = .ok (.iload 4, 2) := by decide +kernel
theorem d_M_writeRecord_30 : decode b_M_writeRecord 30 = .ok (.iadd, 1) := by decide +kernel
theorem d_M_writeRecord_31 : decode b_M_writeRecord 31 = .ok (.sipush 600, 3) := by decide +kernel
theorem d_M_writeRecord_34 : decode b_M_writeRecord 34 = .ok (.if_icmp .le 9, 3) := by decide +kernel
theorem d_M_writeRecord_37 : decode b_M_writeRecord 37 = .ok (.aload_n 0, 1) := by decide +kernel
theorem d_M_writeRecord_38 : decode b_M_writeRecord 38 = .ok (.iconst 5, 1) := by decide +kernel
theorem d_M_writeRecord_39 : decode b_M_writeRecord 39 = .ok (.putfield 91, 3) := by decide +kernel
theorem d_M_writeRecord_42 : decode b_M_writeRecord 42 = .ok (.return_, 1) := by decide +kernel
theorem d_M_writeRecord_43 : decode b_M_writeRecord 43 = .ok (.aload_n 0, 1) := by decide +kernel
theorem d_M_writeRecord_44 : decode b_M_writeRecord 44 = .ok (.aload_n 0, 1) := by decide +kernel
theorem d_M_writeRecord_45 : decode b_M_writeRecord 45 = .ok (.getfield 80, 3) := by decide +kernel
theorem d_M_writeRecord_48 : decode b_M_writeRecord 48 = .ok (.iload_n 2, 1) := by decide +kernel
theorem d_M_writeRecord_49 : decode b_M_writeRecord 49 = .ok (.invokevirtual 143, 3) := by decide +kernel
theorem d_M_writeRecord_52 : decode b_M_writeRecord 52 = .ok (.aload_n 0, 1) := by decide +kernel
theorem d_M_writeRecord_53 : decode b_M_writeRecord 53 = .ok (.aload_n 0, 1) := by decide +kernel
theorem d_M_writeRecord_54 : decode b_M_writeRecord 54 = .ok (.getfield 80, 3) := by decide +kernel
theorem d_M_writeRecord_57 : decode b_M_writeRecord 57 = .ok (.iload_n 2, 1) := by decide +kernel
theorem d_M_writeRecord_58 : decode b_M_writeRecord 58 = .ok (.iload_n 3, 1) := by decide +kernel
theorem d_M_writeRecord_59 : decode b_M_writeRecord 59 = .ok (.iload 4, 2) := by decide +kernel
theorem d_M_writeRecord_61 : decode b_M_writeRecord 61 = .ok (.invokevirtual 147, 3) := by decide +kernel
theorem d_M_writeRecord_64 : decode b_M_writeRecord 64 = .ok (.iconst 0, 1) := by decide +kernel
theorem d_M_writeRecord_65 : decode b_M_writeRecord 65 = .ok (.istore 5, 2) := by decide +kernel
theorem d_M_writeRecord_67 : decode b_M_writeRecord 67 = .ok (.iload 5, 2) := by decide +kernel
theorem d_M_writeRecord_69 : decode b_M_writeRecord 69 = .ok (.iload_n 3, 1) := by decide +kernel
theorem d_M_writeRecord_70 : decode b_M_writeRecord 70 = .ok (.iload 4, 2) := by decide +kernel
theorem d_M_writeRecord_72 : decode b_M_writeRecord 72 = .ok (.iadd, 1) := by decide +kernel
theorem d_M_writeRecord_73 : decode b_M_writeRecord 73 = .ok (.if_icmp .ge 31, 3) := by decide +kernel
theorem d_M_writeRecord_76 : decode b_M_writeRecord 76 = .ok (.aload_n 0, 1) := by decide +kernel
theorem d_M_writeRecord_77 : decode b_M_writeRecord 77 = .ok (.aload_n 0, 1) := by decide +kernel
theorem d_M_writeRecord_78 : decode b_M_writeRecord 78 = .ok (.getfield 80, 3) := by decide +kernel
theorem d_M_writeRecord_81 : decode b_M_writeRecord 81 = .ok (.iload_n 2, 1) := by decide +kernel
theorem d_M_writeRecord_82 : decode b_M_writeRecord 82 = .ok (.iload 5, 2) := by decide +kernel
theorem d_M_writeRecord_84 : decode b_M_writeRecord 84 = .ok (.aload_n 0, 1) := by decide +kernel
theorem d_M_writeRecord_85 : decode b_M_writeRecord 85 = .ok (.getfield 16, 3) := by decide +kernel
theorem d_M_writeRecord_88 : decode b_M_writeRecord 88 = .ok (.iload_n 1, 1) := by decide +kernel
theorem d_M_writeRecord_89 : decode b_M_writeRecord 89 = .ok (.iconst 2, 1) := by decide +kernel
theorem d_M_writeRecord_90 : decode b_M_writeRecord 90 = .ok (.iadd, 1) := by decide +kernel
theorem d_M_writeRecord_91 : decode b_M_writeRecord 91 = .ok (.iload 5, 2) := by decide +kernel
theorem d_M_writeRecord_93 : decode b_M_writeRecord 93 = .ok (.iadd, 1) := by decide +kernel
theorem d_M_writeRecord_94 : decode b_M_writeRecord 94 = .ok (.iaload, 1) := by decide +kernel
theorem d_M_writeRecord_95 : decode b_M_writeRecord 95 = .ok (.invokevirtual 136, 3) := by decide +kernel
theorem d_M_writeRecord_98 : decode b_M_writeRecord 98 = .ok (.iinc 5 1, 3) := by decide +kernel
theorem d_M_writeRecord_101 : decode b_M_writeRecord 101 = .ok (.goto (-34), 3) := by decide +kernel
theorem d_M_writeRecord_104 : decode b_M_writeRecord 104 = .ok (.aload_n 0, 1) := by decide +kernel
theorem d_M_writeRecord_105 : decode b_M_writeRecord 105 = .ok (.iload_n 2, 1) := by decide +kernel
theorem d_M_writeRecord_106 : decode b_M_writeRecord 106 = .ok (.putfield 97, 3) := by decide +kernel
theorem d_M_writeRecord_109 : decode b_M_writeRecord 109 = .ok (.aload_n 0, 1) := by decide +kernel
theorem d_M_writeRecord_110 : decode b_M_writeRecord 110 = .ok (.iconst 3, 1) := by decide +kernel
theorem d_M_writeRecord_111 : decode b_M_writeRecord 111 = .ok (.invokevirtual 111, 3) := by decide +kernel
theorem d_M_writeRecord_114 : decode b_M_writeRecord 114 = .ok (.aload_n 0, 1) := by decide +kernel
theorem d_M_writeRecord_115 : decode b_M_writeRecord 115 = .ok (.dup, 1) := by decide +kernel
theorem d_M_writeRecord_116 : decode b_M_writeRecord 116 = .ok (.getfield 123, 3) := by decide +kernel
theorem d_M_writeRecord_119 : decode b_M_writeRecord 119 = .ok (.iconst 1, 1) := by decide +kernel
theorem d_M_writeRecord_120 : decode b_M_writeRecord 120 = .ok (.iadd, 1) := by decide +kernel
theorem d_M_writeRecord_121 : decode b_M_writeRecord 121 = .ok (.putfield 123, 3) := by decide +kernel
theorem d_M_writeRecord_124 : decode b_M_writeRecord 124 = .ok (.return_, 1) := by decide +kernel
theorem d_M_erase_0 : decode b_M_erase 0 = .ok (.aload_n 0, 1) := by decide +kernel
theorem d_M_erase_1 : decode b_M_erase 1 = .ok (.aload_n 0, 1) := by decide +kernel
theorem d_M_erase_2 : decode b_M_erase 2 = .ok (.getfield 80, 3) := by decide +kernel
theorem d_M_erase_5 : decode b_M_erase 5 = .ok (.aload_n 0, 1) := by decide +kernel
theorem d_M_erase_6 : decode b_M_erase 6 = .ok (.invokevirtual 140, 3) := by decide +kernel
theorem d_M_erase_9 : decode b_M_erase 9 = .ok (.invokevirtual 143, 3) := by decide +kernel
theorem d_M_erase_12 : decode b_M_erase 12 = .ok (.iconst 0, 1) := by decide +kernel
theorem d_M_erase_13 : decode b_M_erase 13 = .ok (.istore_n 1, 1) := by decide +kernel
theorem d_M_erase_14 : decode b_M_erase 14 = .ok (.iload_n 1, 1) := by decide +kernel
theorem d_M_erase_15 : decode b_M_erase 15 = .ok (.iconst 5, 1) := by decide +kernel
theorem d_M_erase_16 : decode b_M_erase 16 = .ok (.if_icmp .ge 13, 3) := by decide +kernel
theorem d_M_erase_19 : decode b_M_erase 19 = .ok (.aload_n 0, 1) := by decide +kernel
theorem d_M_erase_20 : decode b_M_erase 20 = .ok (.invokevirtual 77, 3) := by decide +kernel
theorem d_M_erase_23 : decode b_M_erase 23 = .ok (.iinc 1 1, 3) := by decide +kernel
theorem d_M_erase_26 : decode b_M_erase 26 = .ok (.goto (-12), 3) := by decide +kernel
theorem d_M_erase_29 : decode b_M_erase 29 = .ok (.aload_n 0, 1) := by decide +kernel
theorem d_M_erase_30 : decode b_M_erase 30 = .ok (.iconst 0, 1) := by decide +kernel
theorem d_M_erase_31 : decode b_M_erase 31 = .ok (.putfield 94, 3) := by decide +kernel
theorem d_M_erase_34 : decode b_M_erase 34 = .ok (.return_, 1) := by decide +kernel
theorem d_M_skip_0 : decode b_M_skip 0 = .ok (.iconst 0, 1) := by decide +kernel
theorem d_M_skip_1 : decode b_M_skip 1 = .ok (.istore_n 2, 1) := by decide +kernel
theorem d_M_skip_2 : decode b_M_skip 2 = .ok (.iload_n 2, 1) := by decide +kernel
theorem d_M_skip_3 : decode b_M_skip 3 = .ok (.iload_n 1, 1) := by decide +kernel
theorem d_M_skip_4 : decode b_M_skip 4 = .ok (.if_icmp .ge 13, 3) := by decide +kernel
theorem d_M_skip_7 : decode b_M_skip 7 = .ok (.aload_n 0, 1) := by decide +kernel
theorem d_M_skip_8 : decode b_M_skip 8 = .ok (.invokevirtual 77, 3) := by decide +kernel
theorem d_M_skip_11 : decode b_M_skip 11 = .ok (.iinc 2 1, 3) := by decide +kernel
theorem d_M_skip_14 : decode b_M_skip 14 = .ok (.goto (-12), 3) := by decide +kernel
theorem d_M_skip_17 : decode b_M_skip 17 = .ok (.aload_n 0, 1) := by decide +kernel
theorem d_M_skip_18 : decode b_M_skip 18 = .ok (.iload_n 1, 1) := by decide +kernel
theorem d_M_skip_19 : decode b_M_skip 19 = .ok (.ifCond .le 7, 3) := by decide +kernel
theorem d_M_skip_22 : decode b_M_skip 22 = .ok (.iconst 0, 1) := by decide +kernel
theorem d_M_skip_23 : decode b_M_skip 23 = .ok (.goto 7, 3) := by decide +kernel
theorem d_M_skip_26 : decode b_M_skip 26 = .ok (.aload_n 0, 1) := by decide +kernel
theorem d_M_skip_27 : decode b_M_skip 27 = .ok (.getfield 94, 3) := by decide +kernel
theorem d_M_skip_30 : decode b_M_skip 30 = .ok (.putfield 94, 3) := by decide +kernel
theorem d_M_skip_33 : decode b_M_skip 33 = .ok (.return_, 1) := by decide +kernel
theorem d_M_perform_0 : decode b_M_perform 0 = .ok (.aload_n 0, 1) := by decide +kernel
theorem d_M_perform_1 : decode b_M_perform 1 = .ok (.getfield 20, 3) := by decide +kernel
theorem d_M_perform_4 : decode b_M_perform 4 = .ok (.iload_n 1, 1) := by decide +kernel
theorem d_M_perform_5 : decode b_M_perform 5 = .ok (.iaload, 1) := by decide +kernel
theorem d_M_perform_6 : decode b_M_perform 6 = .ok (.istore_n 2, 1) := by decide +kernel
theorem d_M_perform_7 : decode b_M_perform 7 = .ok (.aload_n 0, 1) := by decide +kernel
theorem d_M_perform_8 : decode b_M_perform 8 = .ok (.getfield 23, 3) := by decide +kernel
theorem d_M_perform_11 : decode b_M_perform 11 = .ok (.iload_n 1, 1) := by decide +kernel
theorem d_M_perform_12 : decode b_M_perform 12 = .ok (.iaload, 1) := by decide +kernel
theorem d_M_perform_13 : decode b_M_perform 13 = .ok (.istore_n 3, 1) := by decide +kernel
theorem d_M_perform_14 : decode b_M_perform 14 = .ok (.aload_n 0, 1) := by decide +kernel
theorem d_M_perform_15 : decode b_M_perform 15 = .ok (.getfield 26, 3) := by decide +kernel
theorem d_M_perform_18 : decode b_M_perform 18 = .ok (.iload_n 1, 1) := by decide +kernel
theorem d_M_perform_19 : decode b_M_perform 19 = .ok (.iaload, 1) := by decide +kernel
theorem d_M_perform_20 : decode b_M_perform 20 = .ok (.istore 4, 2) := by decide +kernel
theorem d_M_perform_22 : decode b_M_perform 22 = .ok (.aload_n 0, 1) := by decide +kernel
theorem d_M_perform_23 : decode b_M_perform 23 = .ok (.iload_n 1, 1) := by decide +kernel
theorem d_M_perform_24 : decode b_M_perform 24 = .ok (.iconst 1, 1) := by decide +kernel
theorem d_M_perform_25 : decode b_M_perform 25 = .ok (.iadd, 1) := by decide +kernel
theorem d_M_perform_26 : decode b_M_perform 26 = .ok (.putfield 120, 3) := by decide +kernel
theorem d_M_perform_29 : decode b_M_perform 29 = .ok (.iload_n 2, 1) := by decide +kernel
theorem d_M_perform_30 : decode b_M_perform 30 = .ok (.ifCond .ne 11, 3) := by decide +kernel
theorem d_M_perform_33 : decode b_M_perform 33 = .ok (.aload_n 0, 1) := by decide +kernel
theorem d_M_perform_34 : decode b_M_perform 34 = .ok (.iload_n 3, 1) := by decide +kernel
theorem d_M_perform_35 : decode b_M_perform 35 = .ok (.invokevirtual 150, 3) := by decide +kernel
theorem d_M_perform_38 : decode b_M_perform 38 = .ok (.goto 95, 3) := by decide +kernel
theorem d_M_perform_41 : decode b_M_perform 41 = .ok (.iload_n 2, 1) := by decide +kernel
theorem d_M_perform_42 : decode b_M_perform 42 = .ok (.iconst 4, 1) := by decide +kernel
theorem d_M_perform_43 : decode b_M_perform 43 = .ok (.if_icmp .ge 14, 3) := by decide +kernel
theorem d_M_perform_46 : decode b_M_perform 46 = .ok (.aload_n 0, 1) := by decide +kernel
theorem d_M_perform_47 : decode b_M_perform 47 = .ok (.iload_n 2, 1) := by decide +kernel
theorem d_M_perform_48 : decode b_M_perform 48 = .ok (.iload_n 3, 1) := by decide +kernel
theorem d_M_perform_49 : decode b_M_perform 49 = .ok (.iload 4, 2) := by decide +kernel
theorem d_M_perform_51 : decode b_M_perform 51 = .ok (.invokevirtual 153, 3) := by decide +kernel
theorem d_M_perform_54 : decode b_M_perform 54 = .ok (.goto 79, 3) := by decide +kernel
theorem d_M_perform_57 : decode b_M_perform 57 = .ok (.iload_n 2, 1) := by decide +kernel
theorem d_M_perform_58 : decode b_M_perform 58 = .ok (.iconst 4, 1) := by decide +kernel
theorem d_M_perform_59 : decode b_M_perform 59 = .ok (.if_icmp .ne 11, 3) := by decide +kernel
theorem d_M_perform_62 : decode b_M_perform 62 = .ok (.aload_n 0, 1) := by decide +kernel
theorem d_M_perform_63 : decode b_M_perform 63 = .ok (.iload_n 3, 1) := by decide +kernel
theorem d_M_perform_64 : decode b_M_perform 64 = .ok (.putfield 120, 3) := by decide +kernel
theorem d_M_perform_67 : decode b_M_perform 67 = .ok (.goto 66, 3) := by decide +kernel
theorem d_M_perform_70 : decode b_M_perform 70 = .ok (.iload_n 2, 1) := by decide +kernel
theorem d_M_perform_71 : decode b_M_perform 71 = .ok (.iconst 5, 1) := by decide +kernel
theorem d_M_perform_72 : decode b_M_perform 72 = .ok (.if_icmp .ne 11, 3) := by decide +kernel
theorem d_M_perform_75 : decode b_M_perform 75 = .ok (.aload_n 0, 1) := by decide +kernel
theorem d_M_perform_76 : decode b_M_perform 76 = .ok (.iload_n 3, 1) := by decide +kernel
theorem d_M_perform_77 : decode b_M_perform 77 = .ok (.invokevirtual 156, 3) := by decide +kernel
theorem d_M_perform_80 : decode b_M_perform 80 = .ok (.goto 53, 3) := by decide +kernel
theorem d_M_perform_83 : decode b_M_perform 83 = .ok (.iload_n 2, 1) := by decide +kernel
theorem d_M_perform_84 : decode b_M_perform 84 = .ok (.bipush 9, 2) := by decide +kernel
theorem d_M_perform_86 : decode b_M_perform 86 = .ok (.if_icmp .ge 14, 3) := by decide +kernel
theorem d_M_perform_89 : decode b_M_perform 89 = .ok (.aload_n 0, 1) := by decide +kernel
theorem d_M_perform_90 : decode b_M_perform 90 = .ok (.iload_n 2, 1) := by decide +kernel
theorem d_M_perform_91 : decode b_M_perform 91 = .ok (.iload_n 3, 1) := by decide +kernel
theorem d_M_perform_92 : decode b_M_perform 92 = .ok (.iload 4, 2) := by decide +kernel
theorem d_M_perform_94 : decode b_M_perform 94 = .ok (.invokevirtual 159, 3) := by decide +kernel
theorem d_M_perform_97 : decode b_M_perform 97 = .ok (.goto 36, 3) := by decide +kernel
theorem d_M_perform_100 : decode b_M_perform 100 = .ok (.iload_n 2, 1) := by decide +kernel
theorem d_M_perform_101 : decode b_M_perform 101 = .ok (.bipush 9, 2) := by decide +kernel
theorem d_M_perform_103 : decode b_M_perform 103 = .ok (.if_icmp .ne 11, 3) := by decide +kernel
theorem d_M_perform_106 : decode b_M_perform 106 = .ok (.aload_n 0, 1) := by decide +kernel
theorem d_M_perform_107 : decode b_M_perform 107 = .ok (.iload_n 3, 1) := by decide +kernel
theorem d_M_perform_108 : decode b_M_perform 108 = .ok (.invokevirtual 162, 3) := by decide +kernel
theorem d_M_perform_111 : decode b_M_perform 111 = .ok (.goto 22, 3) := by decide +kernel
theorem d_M_perform_114 : decode b_M_perform 114 = .ok (.iload_n 2, 1) := by decide +kernel
theorem d_M_perform_115 : decode b_M_perform 115 = .ok (.bipush 10, 2) := by decide +kernel
theorem d_M_perform_117 : decode b_M_perform 117 = .ok (.if_icmp .ne 10, 3) := by decide +kernel
theorem d_M_perform_120 : decode b_M_perform 120 = .ok (.aload_n 0, 1) := by decide +kernel
theorem d_M_perform_121 : decode b_M_perform 121 = .ok (.invokevirtual 165, 3) := by decide +kernel
theorem d_M_perform_124 : decode b_M_perform 124 = .ok (.goto 9, 3) := by decide +kernel
theorem d_M_perform_127 : decode b_M_perform 127 = .ok (.aload_n 0, 1) := by decide +kernel
theorem d_M_perform_128 : decode b_M_perform 128 = .ok (.iload 4, 2) := by decide +kernel
theorem d_M_perform_130 : decode b_M_perform 130 = .ok (.invokevirtual 168, 3) := by decide +kernel
theorem d_M_perform_133 : decode b_M_perform 133 = .ok (.return_, 1) := by decide +kernel
theorem d_M_start_0 : decode b_M_start 0 = .ok (.aload_n 0, 1) := by decide +kernel
theorem d_M_start_1 : decode b_M_start 1 = .ok (.iconst 0, 1) := by decide +kernel
theorem d_M_start_2 : decode b_M_start 2 = .ok (.putfield 32, 3) := by decide +kernel
theorem d_M_start_5 : decode b_M_start 5 = .ok (.aload_n 0, 1) := by decide +kernel
theorem d_M_start_6 : decode b_M_start 6 = .ok (.iconst 0, 1) := by decide +kernel
theorem d_M_start_7 : decode b_M_start 7 = .ok (.putfield 91, 3) := by decide +kernel
theorem d_M_start_10 : decode b_M_start 10 = .ok (.aload_n 0, 1) := by decide +kernel
theorem d_M_start_11 : decode b_M_start 11 = .ok (.iconst 0, 1) := by decide +kernel
theorem d_M_start_12 : decode b_M_start 12 = .ok (.putfield 94, 3) := by decide +kernel
theorem d_M_start_15 : decode b_M_start 15 = .ok (.aload_n 0, 1) := by decide +kernel
theorem d_M_start_16 : decode b_M_start 16 = .ok (.iconst 0, 1) := by decide +kernel
theorem d_M_start_17 : decode b_M_start 17 = .ok (.putfield 126, 3) := by decide +kernel
theorem d_M_start_20 : decode b_M_start 20 = .ok (.aload_n 0, 1) := by decide +kernel
theorem d_M_start_21 : decode b_M_start 21 = .ok (.iconst 0, 1) := by decide +kernel
theorem d_M_start_22 : decode b_M_start 22 = .ok (.putfield 171, 3) := by decide +kernel
theorem d_M_start_25 : decode b_M_start 25 = .ok (.aload_n 0, 1) := by decide +kernel
theorem d_M_start_26 : decode b_M_start 26 = .ok (.iconst 0, 1) := by decide +kernel
theorem d_M_start_27 : decode b_M_start 27 = .ok (.putfield 71, 3) := by decide +kernel
theorem d_M_start_30 : decode b_M_start 30 = .ok (.aload_n 0, 1) := by decide +kernel
theorem d_M_start_31 : decode b_M_start 31 = .ok (.iconst 0, 1) := by decide +kernel
theorem d_M_start_32 : decode b_M_start 32 = .ok (.putfield 74, 3) := by decide +kernel
theorem d_M_start_35 : decode b_M_start 35 = .ok (.iconst 0, 1) := by decide +kernel
theorem d_M_start_36 : decode b_M_start 36 = .ok (.istore_n 1, 1) := by decide +kernel
theorem d_M_start_37 : decode b_M_start 37 = .ok (.iconst (-1), 1) := by decide +kernel
theorem d_M_start_38 : decode b_M_start 38 = .ok (.istore_n 2, 1) := by decide +kernel
theorem d_M_start_39 : decode b_M_start 39 = .ok (.iload_n 1, 1) := by decide +kernel
theorem d_M_start_40 : decode b_M_start 40 = .ok (.aload_n 0, 1) := by decide +kernel
theorem d_M_start_41 : decode b_M_start 41 = .ok (.getfield 50, 3) := by decide +kernel
theorem d_M_start_44 : decode b_M_start 44 = .ok (.if_icmp .ge 76, 3) := by decide +kernel
theorem d_M_start_47 : decode b_M_start 47 = .ok (.aload_n 0, 1) := by decide +kernel
theorem d_M_start_48 : decode b_M_start 48 = .ok (.getfield 91, 3) := by decide +kernel
theorem d_M_start_51 : decode b_M_start 51 = .ok (.ifCond .ne 69, 3) := by decide +kernel
theorem d_M_start_54 : decode b_M_start 54 = .ok (.aload_n 0, 1) := by decide +kernel
theorem d_M_start_55 : decode b_M_start 55 = .ok (.iload_n 1, 1) := by decide +kernel
theorem d_M_start_56 : decode b_M_start 56 = .ok (.putfield 174, 3) := by decide +kernel
theorem d_M_start_59 : decode b_M_start 59 = .ok (.aload_n 0, 1) := by decide +kernel
theorem d_M_start_60 : decode b_M_start 60 = .ok (.getfield 171, 3) := by decide +kernel
theorem d_M_start_63 : decode b_M_start 63 = .ok (.sipush 400, 3) := by decide +kernel
theorem d_M_start_66 : decode b_M_start 66 = .ok (.if_icmp .ne 12, 3) := by decide +kernel
theorem d_M_start_69 : decode b_M_start 69 = .ok (.aload_n 0, 1) := by decide +kernel
theorem d_M_start_70 : decode b_M_start 70 = .ok (.bipush 6, 2) := by decide +kernel
theorem d_M_start_72 : decode b_M_start 72 = .ok (.putfield 91, 3) := by decide +kernel
theorem d_M_start_75 : decode b_M_start 75 = .ok (.goto (-36), 3) := by decide +kernel
theorem d_M_start_78 : decode b_M_start 78 = .ok (.aload_n 0, 1) := by decide +kernel
theorem d_M_start_79 : decode b_M_start 79 = .ok (.iload_n 1, 1) := by decide +kernel
theorem d_M_start_80 : decode b_M_start 80 = .ok (.iload_n 2, 1) := by decide +kernel
theorem d_M_start_81 : decode b_M_start 81 = .ok (.invokevirtual 177, 3) := by decide +kernel
theorem d_M_start_84 : decode b_M_start 84 = .ok (.ifCond .ne 11, 3) := by decide +kernel
theorem d_M_start_87 : decode b_M_start 87 = .ok (.aload_n 0, 1) := by decide +kernel
theorem d_M_start_88 : decode b_M_start 88 = .ok (.iconst 2, 1) := by decide +kernel
theorem d_M_start_89 : decode b_M_start 89 = .ok (.putfield 91, 3) := by decide +kernel
theorem d_M_start_92 : decode b_M_start 92 = .ok (.goto (-53), 3) := by decide +kernel
theorem d_M_start_95 : decode b_M_start 95 = .ok (.aload_n 0, 1) := by decide +kernel
theorem d_M_start_96 : decode b_M_start 96 = .ok (.dup, 1) := by decide +kernel
theorem d_M_start_97 : decode b_M_start 97 = .ok (.getfield 171, 3) := by decide +kernel
theorem d_M_start_100 : decode b_M_start 100 = .ok (.iconst 1, 1) := by decide +kernel
theorem d_M_start_101 : decode b_M_start 101 = .ok (.iadd, 1) := by decide +kernel
theorem d_M_start_102 : decode b_M_start 102 = .ok (.putfield 171, 3) := by decide +kernel
theorem d_M_start_105 : decode b_M_start 105 = .ok (.iload_n 1, 1) := by decide +kernel
theorem d_M_start_106 : decode b_M_start 106 = .ok (.istore_n 2, 1) := by decide +kernel
theorem d_M_start_107 : decode b_M_start 107 = .ok (.aload_n 0, 1) := by decide +kernel
theorem d_M_start_108 : decode b_M_start 108 = .ok (.iload_n 1, 1) := by decide +kernel
theorem d_M_start_109 : decode b_M_start 109 = .ok (.invokevirtual 180, 3) := by decide +kernel
theorem d_M_start_112 : decode b_M_start 112 = .ok (.aload_n 0, 1) := by decide +kernel
theorem d_M_start_113 : decode b_M_start 113 = .ok (.getfield 120, 3) := by decide +kernel
theorem d_M_start_116 : decode b_M_start 116 = .ok (.istore_n 1, 1) := by decide +kernel
theorem d_M_start_117 : decode b_M_start 117 = .ok (.goto (-78), 3) := by decide +kernel
theorem d_M_start_120 : decode b_M_start 120 = .ok (.aload_n 0, 1) := by decide +kernel
theorem d_M_start_121 : decode b_M_start 121 = .ok (.getfield 91, 3) := by decide +kernel
theorem d_M_start_124 : decode b_M_start 124 = .ok (.ifCond .ne 11, 3) := by decide +kernel
theorem d_M_start_127 : decode b_M_start 127 = .ok (.aload_n 0, 1) := by decide +kernel
theorem d_M_start_128 : decode b_M_start 128 = .ok (.aload_n 0, 1) := by decide +kernel
theorem d_M_start_129 : decode b_M_start 129 = .ok (.getfield 50, 3) := by decide +kernel
theorem d_M_start_132 : decode b_M_start 132 = .ok (.putfield 174, 3) := by decide +kernel
theorem d_M_start_135 : decode b_M_start 135 = .ok (.aload_n 0, 1) := by decide +kernel
theorem d_M_start_136 : decode b_M_start 136 = .ok (.iconst 0, 1) := by decide +kernel
theorem d_M_start_137 : decode b_M_start 137 = .ok (.putfield 94, 3) := by decide +kernel
theorem d_M_start_140 : decode b_M_start 140 = .ok (.aload_n 0, 1) := by decide +kernel
theorem d_M_start_141 : decode b_M_start 141 = .ok (.getfield 91, 3) := by decide +kernel
theorem d_M_start_144 : decode b_M_start 144 = .ok (.ireturn, 1) := by decide +kernel
theorem d_M_look_0 : decode b_M_look 0 = .ok (.aload_n 0, 1) := by decide +kernel
theorem d_M_look_1 : decode b_M_look 1 = .ok (.iload_n 1, 1) := by decide +kernel
theorem d_M_look_2 : decode b_M_look 2 = .ok (.ifCond .lt 8, 3) := by decide +kernel
theorem d_M_look_5 : decode b_M_look 5 = .ok (.iload_n 1, 1) := by decide +kernel
theorem d_M_look_6 : decode b_M_look 6 = .ok (.iconst 5, 1) := by decide +kernel
theorem d_M_look_7 : decode b_M_look 7 = .ok (.if_icmp .le 7, 3) := by decide +kernel
theorem d_M_look_10 : decode b_M_look 10 = .ok (.iconst 1, 1) := by decide +kernel
theorem d_M_look_11 : decode b_M_look 11 = .ok (.goto 4, 3) := by decide +kernel
theorem d_M_look_14 : decode b_M_look 14 = .ok (.iconst 0, 1) := by decide +kernel
theorem d_M_look_15 : decode b_M_look 15 = .ok (.iconst 0, 1) := by decide +kernel
theorem d_M_look_16 : decode b_M_look 16 = .ok (.invokevirtual 53, 3) := by decide +kernel
theorem d_M_look_19 : decode b_M_look 19 = .ok (.ifCond .eq 5, 3) := by decide +kernel
theorem d_M_look_22 : decode b_M_look 22 = .ok (.iconst 0, 1) := by decide +kernel
theorem d_M_look_23 : decode b_M_look 23 = .ok (.ireturn, 1) := by decide +kernel
theorem d_M_look_24 : decode b_M_look 24 = .ok (.iload_n 1, 1) := by decide +kernel
theorem d_M_look_25 : decode b_M_look 25 = .ok (.ifCond .ne 10, 3) := by decide +kernel
theorem d_M_look_28 : decode b_M_look 28 = .ok (.aload_n 0, 1) := by decide +kernel
theorem d_M_look_29 : decode b_M_look 29 = .ok (.getfield 174, 3) := by decide +kernel
theorem d_M_look_32 : decode b_M_look 32 = .ok (.goto 55, 3) := by decide +kernel
theorem d_M_look_35 : decode b_M_look 35 = .ok (.iload_n 1, 1) := by decide +kernel
theorem d_M_look_36 : decode b_M_look 36 = .ok (.iconst 1, 1) := by decide +kernel
theorem d_M_look_37 : decode b_M_look 37 = .ok (.if_icmp .ne 10, 3) := by decide +kernel
theorem d_M_look_40 : decode b_M_look 40 = .ok (.aload_n 0, 1) := by decide +kernel
theorem d_M_look_41 : decode b_M_look 41 = .ok (.getfield 126, 3) := by decide +kernel
theorem d_M_look_44 : decode b_M_look 44 = .ok (.goto 43, 3) := by decide +kernel
theorem d_M_look_47 : decode b_M_look 47 = .ok (.iload_n 1, 1) := by decide +kernel
theorem d_M_look_48 : decode b_M_look 48 = .ok (.iconst 2, 1) := by decide +kernel
theorem d_M_look_49 : decode b_M_look 49 = .ok (.if_icmp .ne 10, 3) := by decide +kernel
theorem d_M_look_52 : decode b_M_look 52 = .ok (.aload_n 0, 1) := by decide +kernel
theorem d_M_look_53 : decode b_M_look 53 = .ok (.getfield 171, 3) := by decide +kernel
theorem d_M_look_56 : decode b_M_look 56 = .ok (.goto 31, 3) := by decide +kernel
theorem d_M_look_59 : decode b_M_look 59 = .ok (.iload_n 1, 1) := by decide +kernel
theorem d_M_look_60 : decode b_M_look 60 = .ok (.iconst 3, 1) := by decide +kernel
theorem d_M_look_61 : decode b_M_look 61 = .ok (.if_icmp .ne 10, 3) := by decide +kernel
theorem d_M_look_64 : decode b_M_look 64 = .ok (.aload_n 0, 1) := by decide +kernel
theorem d_M_look_65 : decode b_M_look 65 = .ok (.getfield 71, 3) := by decide +kernel
theorem d_M_look_68 : decode b_M_look 68 = .ok (.goto 19, 3) := by decide +kernel
theorem d_M_look_71 : decode b_M_look 71 = .ok (.iload_n 1, 1) := by decide +kernel
theorem d_M_look_72 : decode b_M_look 72 = .ok (.iconst 4, 1) := by decide +kernel
theorem d_M_look_73 : decode b_M_look 73 = .ok (.if_icmp .ne 10, 3) := by decide +kernel
theorem d_M_look_76 : decode b_M_look 76 = .ok (.aload_n 0, 1) := by decide +kernel
theorem d_M_look_77 : decode b_M_look 77 = .ok (.getfield 80, 3) := by decide +kernel
theorem d_M_look_80 : decode b_M_look 80 = .ok (.goto 7, 3) := by decide +kernel
theorem d_M_look_83 : decode b_M_look 83 = .ok (.aload_n 0, 1) := by decide +kernel
theorem d_M_look_84 : decode b_M_look 84 = .ok (.getfield 123, 3) := by decide +kernel
theorem d_M_look_87 : decode b_M_look 87 = .ok (.ireturn, 1) := by decide +kernel
theorem d_M_clock_0 : decode b_M_clock 0 = .ok (.aload_n 0, 1) := by decide +kernel
theorem d_M_clock_1 : decode b_M_clock 1 = .ok (.iconst 0, 1) := by decide +kernel
theorem d_M_clock_2 : decode b_M_clock 2 = .ok (.putfield 32, 3) := by decide +kernel
theorem d_M_clock_5 : decode b_M_clock 5 = .ok (.aload_n 0, 1) := by decide +kernel
theorem d_M_clock_6 : decode b_M_clock 6 = .ok (.getfield 61, 3) := by decide +kernel
theorem d_M_clock_9 : decode b_M_clock 9 = .ok (.lreturn, 1) := by decide +kernel
theorem d_M_isTrack_0 : decode b_M_isTrack 0 = .ok (.iload_n 0, 1) := by decide +kernel
theorem d_M_isTrack_1 : decode b_M_isTrack 1 = .ok (.ifCond .lt 13, 3) := by decide +kernel
theorem d_M_isTrack_4 : decode b_M_isTrack 4 = .ok (.iload_n 0, 1) := by decide +kernel
theorem d_M_isTrack_5 : decode b_M_isTrack 5 = .ok (.bipush 32, 2) := by decide +kernel
theorem d_M_isTrack_7 : decode b_M_isTrack 7 = .ok (.if_icmp .ge 7, 3) := by decide +kernel
theorem d_M_isTrack_10 : decode b_M_isTrack 10 = .ok (.iconst 1, 1) := by decide +kernel
theorem d_M_isTrack_11 : decode b_M_isTrack 11 = .ok (.goto 4, 3) := by decide +kernel
theorem d_M_isTrack_14 : decode b_M_isTrack 14 = .ok (.iconst 0, 1) := by decide +kernel
theorem d_M_isTrack_15 : decode b_M_isTrack 15 = .ok (.ireturn, 1) := by decide +kernel
theorem d_M_isRecord_0 : decode b_M_isRecord 0 = .ok (.iload_n 1, 1) := by decide +kernel
theorem d_M_isRecord_1 : decode b_M_isRecord 1 = .ok (.invokestatic 183, 3) := by decide +kernel
theorem d_M_isRecord_4 : decode b_M_isRecord 4 = .ok (.ifCond .eq 21, 3) := by decide +kernel
theorem d_M_isRecord_7 : decode b_M_isRecord 7 = .ok (.iload_n 2, 1) := by decide +kernel
theorem d_M_isRecord_8 : decode b_M_isRecord 8 = .ok (.iconst 1, 1) := by decide +kernel
theorem d_M_isRecord_9 : decode b_M_isRecord 9 = .ok (.if_icmp .lt 16, 3) := by decide +kernel
theorem d_M_isRecord_12 : decode b_M_isRecord 12 = .ok (.iload_n 2, 1) := by decide +kernel
theorem d_M_isRecord_13 : decode b_M_isRecord 13 = .ok (.aload_n 0, 1) := by decide +kernel
theorem d_M_isRecord_14 : decode b_M_isRecord 14 = .ok (.iload_n 1, 1) := by decide +kernel
theorem d_M_isRecord_15 : decode b_M_isRecord 15 = .ok (.invokevirtual 83, 3) := by decide +kernel
theorem d_M_isRecord_18 : decode b_M_isRecord 18 = .ok (.if_icmp .gt 7, 3) := by decide +kernel
theorem d_M_isRecord_21 : decode b_M_isRecord 21 = .ok (.iconst 1, 1) := by decide +kernel
theorem d_M_isRecord_22 : decode b_M_isRecord 22 = .ok (.goto 4, 3) := by decide +kernel
theorem d_M_isRecord_25 : decode b_M_isRecord 25 = .ok (.iconst 0, 1) := by decide +kernel
theorem d_M_isRecord_26 : decode b_M_isRecord 26 = .ok (.ireturn, 1) := by decide +kernel
theorem d_M_record_0 : decode b_M_record 0 = .ok (.iload_n 1, 1) := by decide +kernel
theorem d_M_record_1 : decode b_M_record 1 = .ok (.invokestatic 183, 3) := by decide +kernel
theorem d_M_record_4 : decode b_M_record 4 = .ok (.ifCond .eq 11, 3) := by decide +kernel
theorem d_M_record_7 : decode b_M_record 7 = .ok (.iload_n 2, 1) := by decide +kernel
theorem d_M_record_8 : decode b_M_record 8 = .ok (.ifCond .ne 7, 3) := by decide +kernel
theorem d_M_record_11 : decode b_M_record 11 = .ok (.iconst 1, 1) := by decide +kernel
theorem d_M_record_12 : decode b_M_record 12 = .ok (.goto 4, 3) := by decide +kernel
theorem d_M_record_15 : decode b_M_record 15 = .ok (.iconst 0, 1) := by decide +kernel
theorem d_M_record_16 : decode b_M_record 16 = .ok (.istore 4, 2) := by decide +kernel
theorem d_M_record_18 : decode b_M_record 18 = .ok (.aload_n 0, 1) := by decide +kernel
theorem d_M_record_19 : decode b_M_record 19 = .ok (.iload 4, 2) := by decide +kernel
theorem d_M_record_21 : decode b_M_record 21 = .ok (.ifCond .ne 25, 3) := by decide +kernel
theorem d_M_record_24 : decode b_M_record 24 = .ok (.aload_n 0, 1) := by decide +kernel
theorem d_M_record_25 : decode b_M_record 25 = .ok (.iload_n 1, 1) := by decide +kernel
theorem d_M_record_26 : decode b_M_record 26 = .ok (.iload_n 2, 1) := by decide +kernel
theorem d_M_record_27 : decode b_M_record 27 = .ok (.invokevirtual 186, 3) := by decide +kernel
theorem d_M_record_30 : decode b_M_record 30 = .ok (.ifCond .eq 12, 3) := by decide +kernel
theorem d_M_record_33 : decode b_M_record 33 = .ok (.iload_n 3, 1) := by decide +kernel
theorem d_M_record_34 : decode b_M_record 34 = .ok (.ifCond .lt 8, 3) := by decide +kernel
theorem d_M_record_37 : decode b_M_record 37 = .ok (.iload_n 3, 1) := by decide +kernel
theorem d_M_record_38 : decode b_M_record 38 = .ok (.iconst 3, 1) := by decide +kernel
theorem d_M_record_39 : decode b_M_record 39 = .ok (.if_icmp .le 7, 3) := by decide +kernel
theorem d_M_record_42 : decode b_M_record 42 = .ok (.iconst 1, 1) := by decide +kernel
theorem d_M_record_43 : decode b_M_record 43 = .ok (.goto 4, 3) := by decide +kernel
theorem d_M_record_46 : decode b_M_record 46 = .ok (.iconst 0, 1) := by decide +kernel
theorem d_M_record_47 : decode b_M_record 47 = .ok (.iconst 0, 1) := by decide +kernel
theorem d_M_record_48 : decode b_M_record 48 = .ok (.invokevirtual 53, 3) := by decide +kernel
theorem d_M_record_51 : decode b_M_record 51 = .ok (.ifCond .eq 5, 3) := by decide +kernel
theorem d_M_record_54 : decode b_M_record 54 = .ok (.iconst 0, 1) := by decide +kernel
theorem d_M_record_55 : decode b_M_record 55 = .ok (.ireturn, 1) := by decide +kernel
theorem d_M_record_56 : decode b_M_record 56 = .ok (.iload 4, 2) := by decide +kernel
theorem d_M_record_58 : decode b_M_record 58 = .ok (.ifCond .eq 9, 3) := by decide +kernel
theorem d_M_record_61 : decode b_M_record 61 = .ok (.aload_n 0, 1) := by decide +kernel
theorem d_M_record_62 : decode b_M_record 62 = .ok (.iload_n 1, 1) := by decide +kernel
theorem d_M_record_63 : decode b_M_record 63 = .ok (.invokevirtual 83, 3) := by decide +kernel
theorem d_M_record_66 : decode b_M_record 66 = .ok (.ireturn, 1) := by decide +kernel
theorem d_M_record_67 : decode b_M_record 67 = .ok (.aload_n 0, 1) := by decide +kernel
theorem d_M_record_68 : decode b_M_record 68 = .ok (.iload_n 1, 1) := by decide +kernel
theorem d_M_record_69 : decode b_M_record 69 = .ok (.iload_n 2, 1) := by decide +kernel
theorem d_M_record_70 : decode b_M_record 70 = .ok (.invokevirtual 189, 3) := by decide +kernel
theorem d_M_record_73 : decode b_M_record 73 = .ok (.istore 5, 2) := by decide +kernel
theorem d_M_record_75 : decode b_M_record 75 = .ok (.iload_n 3, 1) := by decide +kernel
theorem d_M_record_76 : decode b_M_record 76 = .ok (.ifCond .ne 8, 3) := by decide +kernel
theorem d_M_record_79 : decode b_M_record 79 = .ok (.iload 5, 2) := by decide +kernel
theorem d_M_record_81 : decode b_M_record 81 = .ok (.goto 48, 3) := by decide +kernel
theorem d_M_record_84 : decode b_M_record 84 = .ok (.iload_n 3, 1) := by decide +kernel
theorem d_M_record_85 : decode b_M_record 85 = .ok (.iconst 1, 1) := by decide +kernel
theorem d_M_record_86 : decode b_M_record 86 = .ok (.if_icmp .ne 13, 3) := by decide +kernel
theorem d_M_record_89 : decode b_M_record 89 = .ok (.aload_n 0, 1) := by decide +kernel
theorem d_M_record_90 : decode b_M_record 90 = .ok (.iload_n 1, 1) := by decide +kernel
theorem d_M_record_91 : decode b_M_record 91 = .ok (.iload 5, 2) := by decide +kernel
theorem d_M_record_93 : decode b_M_record 93 = .ok (.invokevirtual 36, 3) := by decide +kernel
theorem d_M_record_96 : decode b_M_record 96 = .ok (.goto 33, 3) := by decide +kernel
theorem d_M_record_99 : decode b_M_record 99 = .ok (.iload_n 3, 1) := by decide +kernel
theorem d_M_record_100 : decode b_M_record 100 = .ok (.iconst 2, 1) := by decide +kernel
theorem d_M_record_101 : decode b_M_record 101 = .ok (.if_icmp .ne 13, 3) := by decide +kernel
theorem d_M_record_104 : decode b_M_record 104 = .ok (.aload_n 0, 1) := by decide +kernel
theorem d_M_record_105 : decode b_M_record 105 = .ok (.iload_n 1, 1) := by decide +kernel
theorem d_M_record_106 : decode b_M_record 106 = .ok (.iload 5, 2) := by decide +kernel
theorem d_M_record_108 : decode b_M_record 108 = .ok (.invokevirtual 40, 3) := by decide +kernel
theorem d_M_record_111 : decode b_M_record 111 = .ok (.goto 18, 3) := by decide +kernel
theorem d_M_record_114 : decode b_M_record 114 = .ok (.aload_n 0, 1) := by decide +kernel
theorem d_M_record_115 : decode b_M_record 115 = .ok (.iload_n 1, 1) := by decide +kernel
theorem d_M_record_116 : decode b_M_record 116 = .ok (.iload 5, 2) := by decide +kernel
theorem d_M_record_118 : decode b_M_record 118 = .ok (.invokevirtual 129, 3) := by decide +kernel
theorem d_M_record_121 : decode b_M_record 121 = .ok (.ifCond .eq 7, 3) := by decide +kernel
theorem d_M_record_124 : decode b_M_record 124 = .ok (.iconst 1, 1) := by decide +kernel
theorem d_M_record_125 : decode b_M_record 125 = .ok (.goto 4, 3) := by decide +kernel
theorem d_M_record_128 : decode b_M_record 128 = .ok (.iconst 0, 1) := by decide +kernel
theorem d_M_record_129 : decode b_M_record 129 = .ok (.ireturn, 1) := by decide +kernel
theorem d_M_byteOf_0 : decode b_M_byteOf 0 = .ok (.aload_n 0, 1) := by decide +kernel
theorem d_M_byteOf_1 : decode b_M_byteOf 1 = .ok (.iload_n 1, 1) := by decide +kernel
theorem d_M_byteOf_2 : decode b_M_byteOf 2 = .ok (.iload_n 2, 1) := by decide +kernel
theorem d_M_byteOf_3 : decode b_M_byteOf 3 = .ok (.invokevirtual 186, 3) := by decide +kernel
theorem d_M_byteOf_6 : decode b_M_byteOf 6 = .ok (.istore 4, 2) := by decide +kernel
theorem d_M_byteOf_8 : decode b_M_byteOf 8 = .ok (.iload 4, 2) := by decide +kernel
theorem d_M_byteOf_10 : decode b_M_byteOf 10 = .ok (.ifCond .eq 12, 3) := by decide +kernel
theorem d_M_byteOf_13 : decode b_M_byteOf 13 = .ok (.aload_n 0, 1) := by decide +kernel
theorem d_M_byteOf_14 : decode b_M_byteOf 14 = .ok (.iload_n 1, 1) := by decide +kernel
theorem d_M_byteOf_15 : decode b_M_byteOf 15 = .ok (.iload_n 2, 1) := by decide +kernel
theorem d_M_byteOf_16 : decode b_M_byteOf 16 = .ok (.invokevirtual 189, 3) := by decide +kernel
theorem d_M_byteOf_19 : decode b_M_byteOf 19 = .ok (.goto 4, 3) := by decide +kernel
theorem d_M_byteOf_22 : decode b_M_byteOf 22 = .ok (.iconst 0, 1) := by decide +kernel
theorem d_M_byteOf_23 : decode b_M_byteOf 23 = .ok (.istore 5, 2) := by decide +kernel
theorem d_M_byteOf_25 : decode b_M_byteOf 25 = .ok (.aload_n 0, 1) := by decide +kernel
theorem d_M_byteOf_26 : decode b_M_byteOf 26 = .ok (.iload 4, 2) := by decide +kernel
theorem d_M_byteOf_28 : decode b_M_byteOf 28 = .ok (.ifCond .eq 24, 3) := by decide +kernel
theorem d_M_byteOf_31 : decode b_M_byteOf 31 = .ok (.iload_n 3, 1) := by decide +kernel
theorem d_M_byteOf_32 : decode b_M_byteOf 32 = .ok (.ifCond .lt 20, 3) := by decide +kernel
theorem d_M_byteOf_35 : decode b_M_byteOf 35 = .ok (.iload_n 3, 1) := by decide +kernel
theorem d_M_byteOf_36 : decode b_M_byteOf 36 = .ok (.aload_n 0, 1) := by decide +kernel
theorem d_M_byteOf_37 : decode b_M_byteOf 37 = .ok (.iload_n 1, 1) := by decide +kernel
theorem d_M_byteOf_38 : decode b_M_byteOf 38 = .ok (.iload 5, 2) := by decide +kernel
theorem d_M_byteOf_40 : decode b_M_byteOf 40 = .ok (.invokevirtual 47, 3) := by decide +kernel
theorem d_M_byteOf_43 : decode b_M_byteOf 43 = .ok (.iload 5, 2) := by decide +kernel
theorem d_M_byteOf_45 : decode b_M_byteOf 45 = .ok (.isub, 1) := by decide +kernel
theorem d_M_byteOf_46 : decode b_M_byteOf 46 = .ok (.bipush 20, 2) := by decide +kernel
theorem d_M_byteOf_48 : decode b_M_byteOf 48 = .ok (.isub, 1) := by decide +kernel
theorem d_M_byteOf_49 : decode b_M_byteOf 49 = .ok (.if_icmp .lt 7, 3) := by decide +kernel
theorem d_M_byteOf_52 : decode b_M_byteOf 52 = .ok (.iconst 1, 1) := by decide +kernel
theorem d_M_byteOf_53 : decode b_M_byteOf 53 = .ok (.goto 4, 3) := by decide +kernel
theorem d_M_byteOf_56 : decode b_M_byteOf 56 = .ok (.iconst 0, 1) := by decide +kernel
theorem d_M_byteOf_57 : decode b_M_byteOf 57 = .ok (.iconst 0, 1) := by decide +kernel
theorem d_M_byteOf_58 : decode b_M_byteOf 58 = .ok (.invokevirtual 53, 3) := by decide +kernel
theorem d_M_byteOf_61 : decode b_M_byteOf 61 = .ok (.ifCond .eq 5, 3) := by decide +kernel
theorem d_M_byteOf_64 : decode b_M_byteOf 64 = .ok (.iconst 0, 1) := by decide +kernel
theorem d_M_byteOf_65 : decode b_M_byteOf 65 = .ok (.ireturn, 1) := by decide +kernel
theorem d_M_byteOf_66 : decode b_M_byteOf 66 = .ok (.aload_n 0, 1) := by decide +kernel
theorem d_M_byteOf_67 : decode b_M_byteOf 67 = .ok (.iload_n 1, 1) := by decide +kernel
theorem d_M_byteOf_68 : decode b_M_byteOf 68 = .ok (.iload 5, 2) := by decide +kernel
theorem d_M_byteOf_70 : decode b_M_byteOf 70 = .ok (.iload_n 3, 1) := by decide +kernel
theorem d_M_byteOf_71 : decode b_M_byteOf 71 = .ok (.invokevirtual 103, 3) := by decide +kernel
theorem d_M_byteOf_74 : decode b_M_byteOf 74 = .ok (.ireturn, 1) := by decide +kernel
theorem d_M_spoil_0 : decode b_M_spoil 0 = .ok (.aload_n 0, 1) := by decide +kernel
theorem d_M_spoil_1 : decode b_M_spoil 1 = .ok (.aload_n 0, 1) := by decide +kernel
theorem d_M_spoil_2 : decode b_M_spoil 2 = .ok (.iload_n 1, 1) := by decide +kernel
theorem d_M_spoil_3 : decode b_M_spoil 3 = .ok (.iload_n 2, 1) := by decide +kernel
theorem d_M_spoil_4 : decode b_M_spoil 4 = .ok (.invokevirtual 186, 3) := by decide +kernel
theorem d_M_spoil_7 : decode b_M_spoil 7 = .ok (.ifCond .ne 7, 3) := by decide +kernel
theorem d_M_spoil_10 : decode b_M_spoil 10 = .ok (.iconst 1, 1) := by decide +kernel
theorem d_M_spoil_11 : decode b_M_spoil 11 = .ok (.goto 4, 3) := by decide +kernel
theorem d_M_spoil_14 : decode b_M_spoil 14 = .ok (.iconst 0, 1) := by decide +kernel
theorem d_M_spoil_15 : decode b_M_spoil 15 = .ok (.iconst 0, 1) := by decide +kernel
theorem d_M_spoil_16 : decode b_M_spoil 16 = .ok (.invokevirtual 53, 3) := by decide +kernel
theorem d_M_spoil_19 : decode b_M_spoil 19 = .ok (.ifCond .eq 4, 3) := by decide +kernel
theorem d_M_spoil_22 : decode b_M_spoil 22 = .ok (.return_, 1) := by decide +kernel
theorem d_M_spoil_23 : decode b_M_spoil 23 = .ok (.aload_n 0, 1) := by decide +kernel
theorem d_M_spoil_24 : decode b_M_spoil 24 = .ok (.iload_n 1, 1) := by decide +kernel
theorem d_M_spoil_25 : decode b_M_spoil 25 = .ok (.aload_n 0, 1) := by decide +kernel
theorem d_M_spoil_26 : decode b_M_spoil 26 = .ok (.iload_n 1, 1) := by decide +kernel
theorem d_M_spoil_27 : decode b_M_spoil 27 = .ok (.iload_n 2, 1) := by decide +kernel
theorem d_M_spoil_28 : decode b_M_spoil 28 = .ok (.invokevirtual 189, 3) := by decide +kernel
theorem d_M_spoil_31 : decode b_M_spoil 31 = .ok (.iconst 1, 1) := by decide +kernel
theorem d_M_spoil_32 : decode b_M_spoil 32 = .ok (.invokevirtual 132, 3) := by decide +kernel
theorem d_M_spoil_35 : decode b_M_spoil 35 = .ok (.return_, 1) := by decide +kernel
theorem d_M_isSet_0 : decode b_M_isSet 0 = .ok (.iload_n 0, 1) := by decide +kernel
theorem d_M_isSet_1 : decode b_M_isSet 1 = .ok (.ifCond .lt 13, 3) := by decide +kernel
theorem d_M_isSet_4 : decode b_M_isSet 4 = .ok (.iload_n 0, 1) := by decide +kernel
theorem d_M_isSet_5 : decode b_M_isSet 5 = .ok (.bipush 6, 2) := by decide +kernel
theorem d_M_isSet_7 : decode b_M_isSet 7 = .ok (.if_icmp .ge 7, 3) := by decide +kernel
theorem d_M_isSet_10 : decode b_M_isSet 10 = .ok (.iconst 1, 1) := by decide +kernel
theorem d_M_isSet_11 : decode b_M_isSet 11 = .ok (.goto 4, 3) := by decide +kernel
theorem d_M_isSet_14 : decode b_M_isSet 14 = .ok (.iconst 0, 1) := by decide +kernel
theorem d_M_isSet_15 : decode b_M_isSet 15 = .ok (.ireturn, 1) := by decide +kernel
theorem d_M_tracksOf_0 : decode b_M_tracksOf 0 = .ok (.iconst 0, 1) := by decide +kernel
theorem d_M_tracksOf_1 : decode b_M_tracksOf 1 = .ok (.istore_n 2, 1) := by decide +kernel
theorem d_M_tracksOf_2 : decode b_M_tracksOf 2 = .ok (.iconst 0, 1) := by decide +kernel
theorem d_M_tracksOf_3 : decode b_M_tracksOf 3 = .ok (.istore_n 3, 1) := by decide +kernel
theorem d_M_tracksOf_4 : decode b_M_tracksOf 4 = .ok (.iload_n 3, 1) := by decide +kernel
theorem d_M_tracksOf_5 : decode b_M_tracksOf 5 = .ok (.bipush 32, 2) := by decide +kernel
theorem d_M_tracksOf_7 : decode b_M_tracksOf 7 = .ok (.if_icmp .ge 29, 3) := by decide +kernel
theorem d_M_tracksOf_10 : decode b_M_tracksOf 10 = .ok (.iload_n 2, 1) := by decide +kernel
theorem d_M_tracksOf_11 : decode b_M_tracksOf 11 = .ok (.aload_n 0, 1) := by decide +kernel
theorem d_M_tracksOf_12 : decode b_M_tracksOf 12 = .ok (.getfield 29, 3) := by decide +kernel
theorem d_M_tracksOf_15 : decode b_M_tracksOf 15 = .ok (.iload_n 3, 1) := by decide +kernel
theorem d_M_tracksOf_16 : decode b_M_tracksOf 16 = .ok (.iaload, 1) := by decide +kernel
theorem d_M_tracksOf_17 : decode b_M_tracksOf 17 = .ok (.iload_n 1, 1) := by decide +kernel
theorem d_M_tracksOf_18 : decode b_M_tracksOf 18 = .ok (.iconst 1, 1) := by decide +kernel
theorem d_M_tracksOf_19 : decode b_M_tracksOf 19 = .ok (.iadd, 1) := by decide +kernel
theorem d_M_tracksOf_20 : decode b_M_tracksOf 20 = .ok (.if_icmp .ne 7, 3) := by decide +kernel
theorem d_M_tracksOf_23 : decode b_M_tracksOf 23 = .ok (.iconst 1, 1) := by decide +kernel
theorem d_M_tracksOf_24 : decode b_M_tracksOf 24 = .ok (.goto 4, 3) := by decide +kernel
theorem d_M_tracksOf_27 : decode b_M_tracksOf 27 = .ok (.iconst 0, 1) := by decide +kernel
theorem d_M_tracksOf_28 : decode b_M_tracksOf 28 = .ok (.iadd, 1) := by decide +kernel
theorem d_M_tracksOf_29 : decode b_M_tracksOf 29 = .ok (.istore_n 2, 1) := by decide +kernel
theorem d_M_tracksOf_30 : decode b_M_tracksOf 30 = .ok (.iinc 3 1, 3) := by decide +kernel
theorem d_M_tracksOf_33 : decode b_M_tracksOf 33 = .ok (.goto (-29), 3) := by decide +kernel
theorem d_M_tracksOf_36 : decode b_M_tracksOf 36 = .ok (.iload_n 2, 1) := by decide +kernel
theorem d_M_tracksOf_37 : decode b_M_tracksOf 37 = .ok (.ireturn, 1) := by decide +kernel
theorem d_M_trackAt_0 : decode b_M_trackAt 0 = .ok (.iload_n 2, 1) := by decide +kernel
theorem d_M_trackAt_1 : decode b_M_trackAt 1 = .ok (.istore_n 3, 1) := by decide +kernel
theorem d_M_trackAt_2 : decode b_M_trackAt 2 = .ok (.iconst 0, 1) := by decide +kernel
theorem d_M_trackAt_3 : decode b_M_trackAt 3 = .ok (.istore 4, 2) := by decide +kernel
theorem d_M_trackAt_5 : decode b_M_trackAt 5 = .ok (.iload 4, 2) := by decide +kernel
theorem d_M_trackAt_7 : decode b_M_trackAt 7 = .ok (.bipush 32, 2) := by decide +kernel
theorem d_M_trackAt_9 : decode b_M_trackAt 9 = .ok (.if_icmp .ge 35, 3) := by decide +kernel
theorem d_M_trackAt_12 : decode b_M_trackAt 12 = .ok (.aload_n 0, 1) := by decide +kernel
theorem d_M_trackAt_13 : decode b_M_trackAt 13 = .ok (.getfield 29, 3) := by decide +kernel
theorem d_M_trackAt_16 : decode b_M_trackAt 16 = .ok (.iload 4, 2) := by decide +kernel
theorem d_M_trackAt_18 : decode b_M_trackAt 18 = .ok (.iaload, 1) := by decide +kernel
theorem d_M_trackAt_19 : decode b_M_trackAt 19 = .ok (.iload_n 1, 1) := by decide +kernel
theorem d_M_trackAt_20 : decode b_M_trackAt 20 = .ok (.iconst 1, 1) := by decide +kernel
theorem d_M_trackAt_21 : decode b_M_trackAt 21 = .ok (.iadd, 1) := by decide +kernel
theorem d_M_trackAt_22 : decode b_M_trackAt 22 = .ok (.if_icmp .eq 6, 3) := by decide +kernel
theorem d_M_trackAt_25 : decode b_M_trackAt 25 = .ok (.goto 13, 3) := by decide +kernel
theorem d_M_trackAt_28 : decode b_M_trackAt 28 = .ok (.iload_n 3, 1) := by decide +kernel
theorem d_M_trackAt_29 : decode b_M_trackAt 29 = .ok (.ifCond .ne 6, 3) := by decide +kernel
theorem d_M_trackAt_32 : decode b_M_trackAt 32 = .ok (.iload 4, 2) := by decide +kernel
theorem d_M_trackAt_34 : decode b_M_trackAt 34 = .ok (.ireturn, 1) := by decide +kernel
theorem d_M_trackAt_35 : decode b_M_trackAt 35 = .ok (.iinc 3 (-1), 3) := by decide +kernel
theorem d_M_trackAt_38 : decode b_M_trackAt 38 = .ok (.iinc 4 1, 3) := by decide +kernel
theorem d_M_trackAt_41 : decode b_M_trackAt 41 = .ok (.goto (-36), 3) := by decide +kernel
theorem d_M_trackAt_44 : decode b_M_trackAt 44 = .ok (.iconst (-1), 1) := by decide +kernel
theorem d_M_trackAt_45 : decode b_M_trackAt 45 = .ok (.ireturn, 1) := by decide +kernel
theorem d_M_extents_0 : decode b_M_extents 0 = .ok (.iload_n 1, 1) := by decide +kernel
theorem d_M_extents_1 : decode b_M_extents 1 = .ok (.istore_n 2, 1) := by decide +kernel
theorem d_M_extents_2 : decode b_M_extents 2 = .ok (.iconst 0, 1) := by decide +kernel
theorem d_M_extents_3 : decode b_M_extents 3 = .ok (.istore_n 3, 1) := by decide +kernel
theorem d_M_extents_4 : decode b_M_extents 4 = .ok (.bipush (-2), 2) := by decide +kernel
theorem d_M_extents_6 : decode b_M_extents 6 = .ok (.istore 4, 2) := by decide +kernel
theorem d_M_extents_8 : decode b_M_extents 8 = .ok (.iconst 0, 1) := by decide +kernel
theorem d_M_extents_9 : decode b_M_extents 9 = .ok (.istore 5, 2) := by decide +kernel
theorem d_M_extents_11 : decode b_M_extents 11 = .ok (.iload 5, 2) := by decide +kernel
theorem d_M_extents_13 : decode b_M_extents 13 = .ok (.bipush 32, 2) := by decide +kernel
theorem d_M_extents_15 : decode b_M_extents 15 = .ok (.if_icmp .ge 50, 3) := by decide +kernel
theorem d_M_extents_18 : decode b_M_extents 18 = .ok (.iload_n 2, 1) := by decide +kernel
theorem d_M_extents_19 : decode b_M_extents 19 = .ok (.ifCond .le 46, 3) := by decide +kernel
theorem d_M_extents_22 : decode b_M_extents 22 = .ok (.aload_n 0, 1) := by decide +kernel
theorem d_M_extents_23 : decode b_M_extents 23 = .ok (.getfield 29, 3) := by decide +kernel
theorem d_M_extents_26 : decode b_M_extents 26 = .ok (.iload 5, 2) := by decide +kernel
theorem d_M_extents_28 : decode b_M_extents 28 = .ok (.iaload, 1) := by decide +kernel
theorem d_M_extents_29 : decode b_M_extents 29 = .ok (.ifCond .le 6, 3) := by decide +kernel
theorem d_M_extents_32 : decode b_M_extents 32 = .ok (.goto 27, 3) := by decide +kernel
theorem d_M_extents_35 : decode b_M_extents 35 = .ok (.iload_n 3, 1) := by decide +kernel
theorem d_M_extents_36 : decode b_M_extents 36 = .ok (.iload 5, 2) := by decide +kernel
theorem d_M_extents_38 : decode b_M_extents 38 = .ok (.iload 4, 2) := by decide +kernel
theorem d_M_extents_40 : decode b_M_extents 40 = .ok (.iconst 1, 1) := by decide +kernel
theorem d_M_extents_41 : decode b_M_extents 41 = .ok (.iadd, 1) := by decide +kernel
theorem d_M_extents_42 : decode b_M_extents 42 = .ok (.if_icmp .ne 7, 3) := by decide +kernel
theorem d_M_extents_45 : decode b_M_extents 45 = .ok (.iconst 0, 1) := by decide +kernel
theorem d_M_extents_46 : decode b_M_extents 46 = .ok (.goto 4, 3) := by decide +kernel
theorem d_M_extents_49 : decode b_M_extents 49 = .ok (.iconst 1, 1) := by decide +kernel
theorem d_M_extents_50 : decode b_M_extents 50 = .ok (.iadd, 1) := by decide +kernel
theorem d_M_extents_51 : decode b_M_extents 51 = .ok (.istore_n 3, 1) := by decide +kernel
theorem d_M_extents_52 : decode b_M_extents 52 = .ok (.iload 5, 2) := by decide +kernel
theorem d_M_extents_54 : decode b_M_extents 54 = .ok (.istore 4, 2) := by decide +kernel
theorem d_M_extents_56 : decode b_M_extents 56 = .ok (.iinc 2 (-1), 3) := by decide +kernel
theorem d_M_extents_59 : decode b_M_extents 59 = .ok (.iinc 5 1, 3) := by decide +kernel
theorem d_M_extents_62 : decode b_M_extents 62 = .ok (.goto (-51), 3) := by decide +kernel
theorem d_M_extents_65 : decode b_M_extents 65 = .ok (.iload_n 2, 1) := by decide +kernel
theorem d_M_extents_66 : decode b_M_extents 66 = .ok (.ifCond .le 7, 3) := by decide +kernel
theorem d_M_extents_69 : decode b_M_extents 69 = .ok (.iconst 0, 1) := by decide +kernel
theorem d_M_extents_70 : decode b_M_extents 70 = .ok (.goto 4, 3) := by decide +kernel
theorem d_M_extents_73 : decode b_M_extents 73 = .ok (.iload_n 3, 1) := by decide +kernel
theorem d_M_extents_74 : decode b_M_extents 74 = .ok (.ireturn, 1) := by decide +kernel
theorem d_M_allocate_0 : decode b_M_allocate 0 = .ok (.iload_n 1, 1) := by decide +kernel
theorem d_M_allocate_1 : decode b_M_allocate 1 = .ok (.invokestatic 192, 3) := by decide +kernel
theorem d_M_allocate_4 : decode b_M_allocate 4 = .ok (.ifCond .eq 14, 3) := by decide +kernel
theorem d_M_allocate_7 : decode b_M_allocate 7 = .ok (.iload_n 2, 1) := by decide +kernel
theorem d_M_allocate_8 : decode b_M_allocate 8 = .ok (.iconst 1, 1) := by decide +kernel
theorem d_M_allocate_9 : decode b_M_allocate 9 = .ok (.if_icmp .lt 9, 3) := by decide +kernel
theorem d_M_allocate_12 : decode b_M_allocate 12 = .ok (.iload_n 2, 1) := by decide +kernel
theorem d_M_allocate_13 : decode b_M_allocate 13 = .ok (.bipush 32, 2) := by decide +kernel
theorem d_M_allocate_15 : decode b_M_allocate 15 = .ok (.if_icmp .le 7, 3) := by decide +kernel
theorem d_M_allocate_18 : decode b_M_allocate 18 = .ok (.iconst 1, 1) := by decide +kernel
theorem d_M_allocate_19 : decode b_M_allocate 19 = .ok (.goto 4, 3) := by decide +kernel
theorem d_M_allocate_22 : decode b_M_allocate 22 = .ok (.iconst 0, 1) := by decide +kernel
theorem d_M_allocate_23 : decode b_M_allocate 23 = .ok (.istore_n 3, 1) := by decide +kernel
theorem d_M_allocate_24 : decode b_M_allocate 24 = .ok (.iload_n 3, 1) := by decide +kernel
theorem d_M_allocate_25 : decode b_M_allocate 25 = .ok (.ifCond .eq 7, 3) := by decide +kernel
theorem d_M_allocate_28 : decode b_M_allocate 28 = .ok (.iconst 0, 1) := by decide +kernel
theorem d_M_allocate_29 : decode b_M_allocate 29 = .ok (.goto 8, 3) := by decide +kernel
theorem d_M_allocate_32 : decode b_M_allocate 32 = .ok (.aload_n 0, 1) := by decide +kernel
theorem d_M_allocate_33 : decode b_M_allocate 33 = .ok (.iload_n 2, 1) := by decide +kernel
theorem d_M_allocate_34 : decode b_M_allocate 34 = .ok (.invokevirtual 195, 3) := by decide +kernel
theorem d_M_allocate_37 : decode b_M_allocate 37 = .ok (.istore 4, 2) := by decide +kernel
theorem d_M_allocate_39 : decode b_M_allocate 39 = .ok (.aload_n 0, 1) := by decide +kernel
theorem d_M_allocate_40 : decode b_M_allocate 40 = .ok (.iload_n 3, 1) := by decide +kernel
theorem d_M_allocate_41 : decode b_M_allocate 41 = .ok (.iload_n 3, 1) := by decide +kernel
theorem d_M_allocate_42 : decode b_M_allocate 42 = .ok (.ifCond .ne 27, 3) := by decide +kernel
theorem d_M_allocate_45 : decode b_M_allocate 45 = .ok (.aload_n 0, 1) := by decide +kernel
theorem d_M_allocate_46 : decode b_M_allocate 46 = .ok (.iload_n 1, 1) := by decide +kernel
theorem d_M_allocate_47 : decode b_M_allocate 47 = .ok (.invokevirtual 198, 3) := by decide +kernel
theorem d_M_allocate_50 : decode b_M_allocate 50 = .ok (.ifCond .gt 15, 3) := by decide +kernel
theorem d_M_allocate_53 : decode b_M_allocate 53 = .ok (.iload 4, 2) := by decide +kernel
theorem d_M_allocate_55 : decode b_M_allocate 55 = .ok (.iconst 1, 1) := by decide +kernel
theorem d_M_allocate_56 : decode b_M_allocate 56 = .ok (.if_icmp .lt 9, 3) := by decide +kernel
theorem d_M_allocate_59 : decode b_M_allocate 59 = .ok (.iload 4, 2) := by decide +kernel
theorem d_M_allocate_61 : decode b_M_allocate 61 = .ok (.iconst 4, 1) := by decide +kernel
theorem d_M_allocate_62 : decode b_M_allocate 62 = .ok (.if_icmp .le 7, 3) := by decide +kernel
theorem d_M_allocate_65 : decode b_M_allocate 65 = .ok (.iconst 1, 1) := by decide +kernel
theorem d_M_allocate_66 : decode b_M_allocate 66 = .ok (.goto 4, 3) := by decide +kernel
theorem d_M_allocate_69 : decode b_M_allocate 69 = .ok (.iconst 0, 1) := by decide +kernel
theorem d_M_allocate_70 : decode b_M_allocate 70 = .ok (.invokevirtual 53, 3) := by decide +kernel
theorem d_M_allocate_73 : decode b_M_allocate 73 = .ok (.ifCond .eq 5, 3) := by decide +kernel
theorem d_M_allocate_76 : decode b_M_allocate 76 = .ok (.iconst 0, 1) := by decide +kernel
theorem d_M_allocate_77 : decode b_M_allocate 77 = .ok (.ireturn, 1) := by decide +kernel
theorem d_M_allocate_78 : decode b_M_allocate 78 = .ok (.iload_n 2, 1) := by decide +kernel
theorem d_M_allocate_79 : decode b_M_allocate 79 = .ok (.istore 5, 2) := by decide +kernel
theorem d_M_allocate_81 : decode b_M_allocate 81 = .ok (.iconst 0, 1) := by decide +kernel
theorem d_M_allocate_82 : decode b_M_allocate 82 = .ok (.istore 6, 2) := by decide +kernel
theorem d_M_allocate_84 : decode b_M_allocate 84 = .ok (.iload 6, 2) := by decide +kernel
theorem d_M_allocate_86 : decode b_M_allocate 86 = .ok (.bipush 32, 2) := by decide +kernel
theorem d_M_allocate_88 : decode b_M_allocate 88 = .ok (.if_icmp .ge 47, 3) := by decide +kernel
theorem d_M_allocate_91 : decode b_M_allocate 91 = .ok (.iload 5, 2) := by decide +kernel
theorem d_M_allocate_93 : decode b_M_allocate 93 = .ok (.ifCond .le 42, 3) := by decide +kernel
theorem d_M_allocate_96 : decode b_M_allocate 96 = .ok (.aload_n 0, 1) := by decide +kernel
theorem d_M_allocate_97 : decode b_M_allocate 97 = .ok (.getfield 29, 3) := by decide +kernel
theorem d_M_allocate_100 : decode b_M_allocate 100 = .ok (.iload 6, 2) := by decide +kernel
theorem d_M_allocate_102 : decode b_M_allocate 102 = .ok (.iaload, 1) := by decide +kernel
theorem d_M_allocate_103 : decode b_M_allocate 103 = .ok (.ifCond .le 6, 3) := by decide +kernel
theorem d_M_allocate_106 : decode b_M_allocate 106 = .ok (.goto 23, 3) := by decide +kernel
theorem d_M_allocate_109 : decode b_M_allocate 109 = .ok (.aload_n 0, 1) := by decide +kernel
theorem d_M_allocate_110 : decode b_M_allocate 110 = .ok (.getfield 29, 3) := by decide +kernel
theorem d_M_allocate_113 : decode b_M_allocate 113 = .ok (.iload 6, 2) := by decide +kernel
theorem d_M_allocate_115 : decode b_M_allocate 115 = .ok (.iload_n 1, 1) := by decide +kernel
theorem d_M_allocate_116 : decode b_M_allocate 116 = .ok (.iconst 1, 1) := by decide +kernel
theorem d_M_allocate_117 : decode b_M_allocate 117 = .ok (.iadd, 1) := by decide +kernel
theorem d_M_allocate_118 : decode b_M_allocate 118 = .ok (.iastore, 1) := by decide +kernel
theorem d_M_allocate_119 : decode b_M_allocate 119 = .ok (.aload_n 0, 1) := by decide +kernel
theorem d_M_allocate_120 : decode b_M_allocate 120 = .ok (.iload 6, 2) := by decide +kernel
theorem d_M_allocate_122 : decode b_M_allocate 122 = .ok (.iconst 0, 1) := by decide +kernel
theorem d_M_allocate_123 : decode b_M_allocate 123 = .ok (.invokevirtual 143, 3) := by decide +kernel
theorem d_M_allocate_126 : decode b_M_allocate 126 = .ok (.iinc 5 (-1), 3) := by decide +kernel
theorem d_M_allocate_129 : decode b_M_allocate 129 = .ok (.iinc 6 1, 3) := by decide +kernel
theorem d_M_allocate_132 : decode b_M_allocate 132 = .ok (.goto (-48), 3) := by decide +kernel
theorem d_M_allocate_135 : decode b_M_allocate 135 = .ok (.iload 4, 2) := by decide +kernel
theorem d_M_allocate_137 : decode b_M_allocate 137 = .ok (.ireturn, 1) := by decide +kernel
theorem d_M_scratch_0 : decode b_M_scratch 0 = .ok (.iload_n 1, 1) := by decide +kernel
theorem d_M_scratch_1 : decode b_M_scratch 1 = .ok (.invokestatic 192, 3) := by decide +kernel
theorem d_M_scratch_4 : decode b_M_scratch 4 = .ok (.ifCond .ne 7, 3) := by decide +kernel
theorem d_M_scratch_7 : decode b_M_scratch 7 = .ok (.iconst 1, 1) := by decide +kernel
theorem d_M_scratch_8 : decode b_M_scratch 8 = .ok (.goto 4, 3) := by decide +kernel
theorem d_M_scratch_11 : decode b_M_scratch 11 = .ok (.iconst 0, 1) := by decide +kernel
theorem d_M_scratch_12 : decode b_M_scratch 12 = .ok (.istore_n 2, 1) := by decide +kernel
theorem d_M_scratch_13 : decode b_M_scratch 13 = .ok (.aload_n 0, 1) := by decide +kernel
theorem d_M_scratch_14 : decode b_M_scratch 14 = .ok (.iload_n 2, 1) := by decide +kernel
theorem d_M_scratch_15 : decode b_M_scratch 15 = .ok (.iload_n 2, 1) := by decide +kernel
theorem d_M_scratch_16 : decode b_M_scratch 16 = .ok (.ifCond .ne 15, 3) := by decide +kernel
theorem d_M_scratch_19 : decode b_M_scratch 19 = .ok (.aload_n 0, 1) := by decide +kernel
theorem d_M_scratch_20 : decode b_M_scratch 20 = .ok (.iload_n 1, 1) := by decide +kernel
theorem d_M_scratch_21 : decode b_M_scratch 21 = .ok (.invokevirtual 198, 3) := by decide +kernel
theorem d_M_scratch_24 : decode b_M_scratch 24 = .ok (.ifCond .ne 7, 3) := by decide +kernel
theorem d_M_scratch_27 : decode b_M_scratch 27 = .ok (.iconst 1, 1) := by decide +kernel
theorem d_M_scratch_28 : decode b_M_scratch 28 = .ok (.goto 4, 3) := by decide +kernel
theorem d_M_scratch_31 : decode b_M_scratch 31 = .ok (.iconst 0, 1) := by decide +kernel
theorem d_M_scratch_32 : decode b_M_scratch 32 = .ok (.invokevirtual 53, 3) := by decide +kernel
theorem d_M_scratch_35 : decode b_M_scratch 35 = .ok (.ifCond .eq 4, 3) := by decide +kernel
theorem d_M_scratch_38 : decode b_M_scratch 38 = .ok (.return_, 1) := by decide +kernel
theorem d_M_scratch_39 : decode b_M_scratch 39 = .ok (.iconst 0, 1) := by decide +kernel
theorem d_M_scratch_40 : decode b_M_scratch 40 = .ok (.istore_n 3, 1) := by decide +kernel
theorem d_M_scratch_41 : decode b_M_scratch 41 = .ok (.iload_n 3, 1) := by decide +kernel
theorem d_M_scratch_42 : decode b_M_scratch 42 = .ok (.bipush 32, 2) := by decide +kernel
theorem d_M_scratch_44 : decode b_M_scratch 44 = .ok (.if_icmp .ge 37, 3) := by decide +kernel
theorem d_M_scratch_47 : decode b_M_scratch 47 = .ok (.aload_n 0, 1) := by decide +kernel
theorem d_M_scratch_48 : decode b_M_scratch 48 = .ok (.getfield 29, 3) := by decide +kernel
theorem d_M_scratch_51 : decode b_M_scratch 51 = .ok (.iload_n 3, 1) := by decide +kernel
theorem d_M_scratch_52 : decode b_M_scratch 52 = .ok (.aload_n 0, 1) := by decide +kernel
theorem d_M_scratch_53 : decode b_M_scratch 53 = .ok (.getfield 29, 3) := by decide +kernel
theorem d_M_scratch_56 : decode b_M_scratch 56 = .ok (.iload_n 3, 1) := by decide +kernel
theorem d_M_scratch_57 : decode b_M_scratch 57 = .ok (.iaload, 1) := by decide +kernel
theorem d_M_scratch_58 : decode b_M_scratch 58 = .ok (.iload_n 1, 1) := by decide +kernel
theorem d_M_scratch_59 : decode b_M_scratch 59 = .ok (.iconst 1, 1) := by decide +kernel
theorem d_M_scratch_60 : decode b_M_scratch 60 = .ok (.iadd, 1) := by decide +kernel
theorem d_M_scratch_61 : decode b_M_scratch 61 = .ok (.if_icmp .ne 7, 3) := by decide +kernel
theorem d_M_scratch_64 : decode b_M_scratch 64 = .ok (.iconst 0, 1) := by decide +kernel
theorem d_M_scratch_65 : decode b_M_scratch 65 = .ok (.goto 9, 3) := by decide +kernel
theorem d_M_scratch_68 : decode b_M_scratch 68 = .ok (.aload_n 0, 1) := by decide +kernel
theorem d_M_scratch_69 : decode b_M_scratch 69 = .ok (.getfield 29, 3) := by decide +kernel
theorem d_M_scratch_72 : decode b_M_scratch 72 = .ok (.iload_n 3, 1) := by decide +kernel
theorem d_M_scratch_73 : decode b_M_scratch 73 = .ok (.iaload, 1) := by decide +kernel
theorem d_M_scratch_74 : decode b_M_scratch 74 = .ok (.iastore, 1) := by decide +kernel
theorem d_M_scratch_75 : decode b_M_scratch 75 = .ok (.iinc 3 1, 3) := by decide +kernel
theorem d_M_scratch_78 : decode b_M_scratch 78 = .ok (.goto (-37), 3) := by decide +kernel
theorem d_M_scratch_81 : decode b_M_scratch 81 = .ok (.return_, 1) := by decide +kernel
theorem d_M_trackOf_0 : decode b_M_trackOf 0 = .ok (.iload_n 1, 1) := by decide +kernel
theorem d_M_trackOf_1 : decode b_M_trackOf 1 = .ok (.invokestatic 192, 3) := by decide +kernel
theorem d_M_trackOf_4 : decode b_M_trackOf 4 = .ok (.ifCond .ne 7, 3) := by decide +kernel
theorem d_M_trackOf_7 : decode b_M_trackOf 7 = .ok (.iconst 1, 1) := by decide +kernel
theorem d_M_trackOf_8 : decode b_M_trackOf 8 = .ok (.goto 4, 3) := by decide +kernel
theorem d_M_trackOf_11 : decode b_M_trackOf 11 = .ok (.iconst 0, 1) := by decide +kernel
theorem d_M_trackOf_12 : decode b_M_trackOf 12 = .ok (.istore_n 3, 1) := by decide +kernel
theorem d_M_trackOf_13 : decode b_M_trackOf 13 = .ok (.aload_n 0, 1) := by decide +kernel
theorem d_M_trackOf_14 : decode b_M_trackOf 14 = .ok (.iload_n 3, 1) := by decide +kernel
theorem d_M_trackOf_15 : decode b_M_trackOf 15 = .ok (.ifCond .ne 17, 3) := by decide +kernel
theorem d_M_trackOf_18 : decode b_M_trackOf 18 = .ok (.iload_n 2, 1) := by decide +kernel
theorem d_M_trackOf_19 : decode b_M_trackOf 19 = .ok (.iconst (-1), 1) := by decide +kernel
theorem d_M_trackOf_20 : decode b_M_trackOf 20 = .ok (.if_icmp .lt 12, 3) := by decide +kernel
theorem d_M_trackOf_23 : decode b_M_trackOf 23 = .ok (.iload_n 2, 1) := by decide +kernel
theorem d_M_trackOf_24 : decode b_M_trackOf 24 = .ok (.aload_n 0, 1) := by decide +kernel
theorem d_M_trackOf_25 : decode b_M_trackOf 25 = .ok (.iload_n 1, 1) := by decide +kernel
theorem d_M_trackOf_26 : decode b_M_trackOf 26 = .ok (.invokevirtual 198, 3) := by decide +kernel
theorem d_M_trackOf_29 : decode b_M_trackOf 29 = .ok (.if_icmp .lt 7, 3) := by decide +kernel
theorem d_M_trackOf_32 : decode b_M_trackOf 32 = .ok (.iconst 1, 1) := by decide +kernel
theorem d_M_trackOf_33 : decode b_M_trackOf 33 = .ok (.goto 4, 3) := by decide +kernel
theorem d_M_trackOf_36 : decode b_M_trackOf 36 = .ok (.iconst 0, 1) := by decide +kernel
theorem d_M_trackOf_37 : decode b_M_trackOf 37 = .ok (.iconst 0, 1) := by decide +kernel
theorem d_M_trackOf_38 : decode b_M_trackOf 38 = .ok (.invokevirtual 53, 3) := by decide +kernel
theorem d_M_trackOf_41 : decode b_M_trackOf 41 = .ok (.ifCond .eq 5, 3) := by decide +kernel
theorem d_M_trackOf_44 : decode b_M_trackOf 44 = .ok (.iconst 0, 1) := by decide +kernel
theorem d_M_trackOf_45 : decode b_M_trackOf 45 = .ok (.ireturn, 1) := by decide +kernel
theorem d_M_trackOf_46 : decode b_M_trackOf 46 = .ok (.iload_n 2, 1) := by decide +kernel
theorem d_M_trackOf_47 : decode b_M_trackOf 47 = .ok (.ifCond .ge 11, 3) := by decide +kernel
theorem d_M_trackOf_50 : decode b_M_trackOf 50 = .ok (.aload_n 0, 1) := by decide +kernel
theorem d_M_trackOf_51 : decode b_M_trackOf 51 = .ok (.iload_n 1, 1) := by decide +kernel
theorem d_M_trackOf_52 : decode b_M_trackOf 52 = .ok (.invokevirtual 198, 3) := by decide +kernel
theorem d_M_trackOf_55 : decode b_M_trackOf 55 = .ok (.goto 9, 3) := by decide +kernel
theorem d_M_trackOf_58 : decode b_M_trackOf 58 = .ok (.aload_n 0, 1) := by decide +kernel
theorem d_M_trackOf_59 : decode b_M_trackOf 59 = .ok (.iload_n 1, 1) := by decide +kernel
theorem d_M_trackOf_60 : decode b_M_trackOf 60 = .ok (.iload_n 2, 1) := by decide +kernel
theorem d_M_trackOf_61 : decode b_M_trackOf 61 = .ok (.invokevirtual 201, 3) := by decide +kernel
theorem d_M_trackOf_64 : decode b_M_trackOf 64 = .ok (.ireturn, 1) := by decide +kernel
theorem d_M_free_0 : decode b_M_free 0 = .ok (.aload_n 0, 1) := by decide +kernel
theorem d_M_free_1 : decode b_M_free 1 = .ok (.iconst 0, 1) := by decide +kernel
theorem d_M_free_2 : decode b_M_free 2 = .ok (.putfield 32, 3) := by decide +kernel
theorem d_M_free_5 : decode b_M_free 5 = .ok (.iconst 0, 1) := by decide +kernel
theorem d_M_free_6 : decode b_M_free 6 = .ok (.istore_n 1, 1) := by decide +kernel
theorem d_M_free_7 : decode b_M_free 7 = .ok (.iconst 0, 1) := by decide +kernel
theorem d_M_free_8 : decode b_M_free 8 = .ok (.istore_n 2, 1) := by decide +kernel
theorem d_M_free_9 : decode b_M_free 9 = .ok (.iload_n 2, 1) := by decide +kernel
theorem d_M_free_10 : decode b_M_free 10 = .ok (.bipush 32, 2) := by decide +kernel
theorem d_M_free_12 : decode b_M_free 12 = .ok (.if_icmp .ge 26, 3) := by decide +kernel
theorem d_M_free_15 : decode b_M_free 15 = .ok (.iload_n 1, 1) := by decide +kernel
theorem d_M_free_16 : decode b_M_free 16 = .ok (.aload_n 0, 1) := by decide +kernel
theorem d_M_free_17 : decode b_M_free 17 = .ok (.getfield 29, 3) := by decide +kernel
theorem d_M_free_20 : decode b_M_free 20 = .ok (.iload_n 2, 1) := by decide +kernel
theorem d_M_free_21 : decode b_M_free 21 = .ok (.iaload, 1) := by decide +kernel
theorem d_M_free_22 : decode b_M_free 22 = .ok (.ifCond .ne 7, 3) := by decide +kernel
theorem d_M_free_25 : decode b_M_free 25 = .ok (.iconst 1, 1) := by decide +kernel
theorem d_M_free_26 : decode b_M_free 26 = .ok (.goto 4, 3) := by decide +kernel
theorem d_M_free_29 : decode b_M_free 29 = .ok (.iconst 0, 1) := by decide +kernel
theorem d_M_free_30 : decode b_M_free 30 = .ok (.iadd, 1) := by decide +kernel
theorem d_M_free_31 : decode b_M_free 31 = .ok (.istore_n 1, 1) := by decide +kernel
theorem d_M_free_32 : decode b_M_free 32 = .ok (.iinc 2 1, 3) := by decide +kernel
theorem d_M_free_35 : decode b_M_free 35 = .ok (.goto (-26), 3) := by decide +kernel
theorem d_M_free_38 : decode b_M_free 38 = .ok (.iload_n 1, 1) := by decide +kernel
theorem d_M_free_39 : decode b_M_free 39 = .ok (.ireturn, 1) := by decide +kernel
theorem d_M_isKey_0 : decode b_M_isKey 0 = .ok (.aload_n 0, 1) := by decide +kernel
theorem d_M_isKey_1 : decode b_M_isKey 1 = .ok (.iload_n 1, 1) := by decide +kernel
theorem d_M_isKey_2 : decode b_M_isKey 2 = .ok (.iload_n 2, 1) := by decide +kernel
theorem d_M_isKey_3 : decode b_M_isKey 3 = .ok (.invokevirtual 36, 3) := by decide +kernel
theorem d_M_isKey_6 : decode b_M_isKey 6 = .ok (.iconst 4, 1) := by decide +kernel
theorem d_M_isKey_7 : decode b_M_isKey 7 = .ok (.if_icmp .ne 7, 3) := by decide +kernel
theorem d_M_isKey_10 : decode b_M_isKey 10 = .ok (.iconst 1, 1) := by decide +kernel
theorem d_M_isKey_11 : decode b_M_isKey 11 = .ok (.goto 4, 3) := by decide +kernel
theorem d_M_isKey_14 : decode b_M_isKey 14 = .ok (.iconst 0, 1) := by decide +kernel
theorem d_M_isKey_15 : decode b_M_isKey 15 = .ok (.istore 4, 2) := by decide +kernel
theorem d_M_isKey_17 : decode b_M_isKey 17 = .ok (.iconst 0, 1) := by decide +kernel
theorem d_M_isKey_18 : decode b_M_isKey 18 = .ok (.istore 5, 2) := by decide +kernel
theorem d_M_isKey_20 : decode b_M_isKey 20 = .ok (.iload 5, 2) := by decide +kernel
theorem d_M_isKey_22 : decode b_M_isKey 22 = .ok (.iconst 4, 1) := by decide +kernel
theorem d_M_isKey_23 : decode b_M_isKey 23 = .ok (.if_icmp .ge 46, 3) := by decide +kernel
theorem d_M_isKey_26 : decode b_M_isKey 26 = .ok (.iload 4, 2) := by decide +kernel
theorem d_M_isKey_28 : decode b_M_isKey 28 = .ok (.ifCond .eq 41, 3) := by decide +kernel
theorem d_M_isKey_31 : decode b_M_isKey 31 = .ok (.aload_n 0, 1) := by decide +kernel
theorem d_M_isKey_32 : decode b_M_isKey 32 = .ok (.iload_n 1, 1) := by decide +kernel
theorem d_M_isKey_33 : decode b_M_isKey 33 = .ok (.iload_n 2, 1) := by decide +kernel
theorem d_M_isKey_34 : decode b_M_isKey 34 = .ok (.iload 5, 2) := by decide +kernel
theorem d_M_isKey_36 : decode b_M_isKey 36 = .ok (.invokevirtual 103, 3) := by decide +kernel
theorem d_M_isKey_39 : decode b_M_isKey 39 = .ok (.iload_n 3, 1) := by decide +kernel
theorem d_M_isKey_40 : decode b_M_isKey 40 = .ok (.bipush 24, 2) := by decide +kernel
theorem d_M_isKey_42 : decode b_M_isKey 42 = .ok (.bipush 8, 2) := by decide +kernel
theorem d_M_isKey_44 : decode b_M_isKey 44 = .ok (.iload 5, 2) := by decide +kernel
theorem d_M_isKey_46 : decode b_M_isKey 46 = .ok (.imul, 1) := by decide +kernel
theorem d_M_isKey_47 : decode b_M_isKey 47 = .ok (.isub, 1) := by decide +kernel
theorem d_M_isKey_48 : decode b_M_isKey 48 = .ok (.ishr, 1) := by decide +kernel
theorem d_M_isKey_49 : decode b_M_isKey 49 = .ok (.sipush 255, 3) := by decide +kernel
theorem d_M_isKey_52 : decode b_M_isKey 52 = .ok (.iand, 1) := by decide +kernel
theorem d_M_isKey_53 : decode b_M_isKey 53 = .ok (.if_icmp .ne 7, 3) := by decide +kernel
theorem d_M_isKey_56 : decode b_M_isKey 56 = .ok (.iconst 1, 1) := by decide +kernel
theorem d_M_isKey_57 : decode b_M_isKey 57 = .ok (.goto 4, 3) := by decide +kernel
theorem d_M_isKey_60 : decode b_M_isKey 60 = .ok (.iconst 0, 1) := by decide +kernel
theorem d_M_isKey_61 : decode b_M_isKey 61 = .ok (.istore 4, 2) := by decide +kernel
theorem d_M_isKey_63 : decode b_M_isKey 63 = .ok (.iinc 5 1, 3) := by decide +kernel
theorem d_M_isKey_66 : decode b_M_isKey 66 = .ok (.goto (-46), 3) := by decide +kernel
theorem d_M_isKey_69 : decode b_M_isKey 69 = .ok (.iload 4, 2) := by decide +kernel
theorem d_M_isKey_71 : decode b_M_isKey 71 = .ok (.ireturn, 1) := by decide +kernel
theorem d_M_tryOf_0 : decode b_M_tryOf 0 = .ok (.aload_n 0, 1) := by decide +kernel
theorem d_M_tryOf_1 : decode b_M_tryOf 1 = .ok (.iload_n 1, 1) := by decide +kernel
theorem d_M_tryOf_2 : decode b_M_tryOf 2 = .ok (.invokevirtual 198, 3) := by decide +kernel
theorem d_M_tryOf_5 : decode b_M_tryOf 5 = .ok (.istore 4, 2) := by decide +kernel
theorem d_M_tryOf_7 : decode b_M_tryOf 7 = .ok (.iload_n 2, 1) := by decide +kernel
theorem d_M_tryOf_8 : decode b_M_tryOf 8 = .ok (.i2l, 1) := by decide +kernel
theorem d_M_tryOf_9 : decode b_M_tryOf 9 = .ok (.ldc2_w 204, 3) := by decide +kernel
theorem d_M_tryOf_12 : decode b_M_tryOf 12 = .ok (.land, 1) := by decide +kernel
theorem d_M_tryOf_13 : decode b_M_tryOf 13 = .ok (.iload 4, 2) := by decide +kernel
theorem d_M_tryOf_15 : decode b_M_tryOf 15 = .ok (.i2l, 1) := by decide +kernel
theorem d_M_tryOf_16 : decode b_M_tryOf 16 = .ok (.lrem, 1) := by decide +kernel
theorem d_M_tryOf_17 : decode b_M_tryOf 17 = .ok (.l2i, 1) := by decide +kernel
theorem d_M_tryOf_18 : decode b_M_tryOf 18 = .ok (.istore 5, 2) := by decide +kernel
theorem d_M_tryOf_20 : decode b_M_tryOf 20 = .ok (.iload_n 3, 1) := by decide +kernel
theorem d_M_tryOf_21 : decode b_M_tryOf 21 = .ok (.iload 4, 2) := by decide +kernel
theorem d_M_tryOf_23 : decode b_M_tryOf 23 = .ok (.if_icmp .ge 23, 3) := by decide +kernel
theorem d_M_tryOf_26 : decode b_M_tryOf 26 = .ok (.iload_n 3, 1) := by decide +kernel
theorem d_M_tryOf_27 : decode b_M_tryOf 27 = .ok (.iconst 4, 1) := by decide +kernel
theorem d_M_tryOf_28 : decode b_M_tryOf 28 = .ok (.if_icmp .ge 18, 3) := by decide +kernel
theorem d_M_tryOf_31 : decode b_M_tryOf 31 = .ok (.aload_n 0, 1) := by decide +kernel
theorem d_M_tryOf_32 : decode b_M_tryOf 32 = .ok (.iload_n 1, 1) := by decide +kernel
theorem d_M_tryOf_33 : decode b_M_tryOf 33 = .ok (.iload 5, 2) := by decide +kernel
theorem d_M_tryOf_35 : decode b_M_tryOf 35 = .ok (.iload_n 3, 1) := by decide +kernel
theorem d_M_tryOf_36 : decode b_M_tryOf 36 = .ok (.iadd, 1) := by decide +kernel
theorem d_M_tryOf_37 : decode b_M_tryOf 37 = .ok (.iload 4, 2) := by decide +kernel
theorem d_M_tryOf_39 : decode b_M_tryOf 39 = .ok (.irem, 1) := by decide +kernel
theorem d_M_tryOf_40 : decode b_M_tryOf 40 = .ok (.invokevirtual 201, 3) := by decide +kernel
theorem d_M_tryOf_43 : decode b_M_tryOf 43 = .ok (.goto 4, 3) := by decide +kernel
theorem d_M_tryOf_46 : decode b_M_tryOf 46 = .ok (.iconst (-1), 1) := by decide +kernel
theorem d_M_tryOf_47 : decode b_M_tryOf 47 = .ok (.ireturn, 1) := by decide +kernel
theorem d_M_find_0 : decode b_M_find 0 = .ok (.iconst 0, 1) := by decide +kernel
theorem d_M_find_1 : decode b_M_find 1 = .ok (.istore_n 3, 1) := by decide +kernel
theorem d_M_find_2 : decode b_M_find 2 = .ok (.iload_n 3, 1) := by decide +kernel
theorem d_M_find_3 : decode b_M_find 3 = .ok (.iconst 4, 1) := by decide +kernel
theorem d_M_find_4 : decode b_M_find 4 = .ok (.if_icmp .ge 72, 3) := by decide +kernel
theorem d_M_find_7 : decode b_M_find 7 = .ok (.aload_n 0, 1) := by decide +kernel
theorem d_M_find_8 : decode b_M_find 8 = .ok (.iload_n 1, 1) := by decide +kernel
theorem d_M_find_9 : decode b_M_find 9 = .ok (.iload_n 2, 1) := by decide +kernel
theorem d_M_find_10 : decode b_M_find 10 = .ok (.iload_n 3, 1) := by decide +kernel
theorem d_M_find_11 : decode b_M_find 11 = .ok (.invokevirtual 206, 3) := by decide +kernel
theorem d_M_find_14 : decode b_M_find 14 = .ok (.istore 4, 2) := by decide +kernel
theorem d_M_find_16 : decode b_M_find 16 = .ok (.iconst 0, 1) := by decide +kernel
theorem d_M_find_17 : decode b_M_find 17 = .ok (.istore 5, 2) := by decide +kernel
theorem d_M_find_19 : decode b_M_find 19 = .ok (.iload 4, 2) := by decide +kernel
theorem d_M_find_21 : decode b_M_find 21 = .ok (.ifCond .lt 49, 3) := by decide +kernel
theorem d_M_find_24 : decode b_M_find 24 = .ok (.aload_n 0, 1) := by decide +kernel
theorem d_M_find_25 : decode b_M_find 25 = .ok (.iload 4, 2) := by decide +kernel
theorem d_M_find_27 : decode b_M_find 27 = .ok (.iload 5, 2) := by decide +kernel
theorem d_M_find_29 : decode b_M_find 29 = .ok (.invokevirtual 43, 3) := by decide +kernel
theorem d_M_find_32 : decode b_M_find 32 = .ok (.ifCond .eq 38, 3) := by decide +kernel
theorem d_M_find_35 : decode b_M_find 35 = .ok (.aload_n 0, 1) := by decide +kernel
theorem d_M_find_36 : decode b_M_find 36 = .ok (.iload 4, 2) := by decide +kernel
theorem d_M_find_38 : decode b_M_find 38 = .ok (.iload 5, 2) := by decide +kernel
theorem d_M_find_40 : decode b_M_find 40 = .ok (.iload_n 2, 1) := by decide +kernel
theorem d_M_find_41 : decode b_M_find 41 = .ok (.invokevirtual 209, 3) := by decide +kernel
theorem d_M_find_44 : decode b_M_find 44 = .ok (.ifCond .eq 13, 3) := by decide +kernel
theorem d_M_find_47 : decode b_M_find 47 = .ok (.sipush 600, 3) := by decide +kernel
theorem d_M_find_50 : decode b_M_find 50 = .ok (.iload 4, 2) := by decide +kernel
theorem d_M_find_52 : decode b_M_find 52 = .ok (.imul, 1) := by decide +kernel
theorem d_M_find_53 : decode b_M_find 53 = .ok (.iload 5, 2) := by decide +kernel
theorem d_M_find_55 : decode b_M_find 55 = .ok (.iadd, 1) := by decide +kernel
theorem d_M_find_56 : decode b_M_find 56 = .ok (.ireturn, 1) := by decide +kernel
theorem d_M_find_57 : decode b_M_find 57 = .ok (.aload_n 0, 1) := by decide +kernel
theorem d_M_find_58 : decode b_M_find 58 = .ok (.iload 4, 2) := by decide +kernel
theorem d_M_find_60 : decode b_M_find 60 = .ok (.iload 5, 2) := by decide +kernel
theorem d_M_find_62 : decode b_M_find 62 = .ok (.invokevirtual 47, 3) := by decide +kernel
theorem d_M_find_65 : decode b_M_find 65 = .ok (.istore 5, 2) := by decide +kernel
theorem d_M_find_67 : decode b_M_find 67 = .ok (.goto (-48), 3) := by decide +kernel
theorem d_M_find_70 : decode b_M_find 70 = .ok (.iinc 3 1, 3) := by decide +kernel
theorem d_M_find_73 : decode b_M_find 73 = .ok (.goto (-71), 3) := by decide +kernel
theorem d_M_find_76 : decode b_M_find 76 = .ok (.iconst (-1), 1) := by decide +kernel
theorem d_M_find_77 : decode b_M_find 77 = .ok (.ireturn, 1) := by decide +kernel
theorem d_M_room_0 : decode b_M_room 0 = .ok (.iconst 0, 1) := by decide +kernel
theorem d_M_room_1 : decode b_M_room 1 = .ok (.istore 4, 2) := by decide +kernel
theorem d_M_room_3 : decode b_M_room 3 = .ok (.iload 4, 2) := by decide +kernel
theorem d_M_room_5 : decode b_M_room 5 = .ok (.iconst 4, 1) := by decide +kernel
theorem d_M_room_6 : decode b_M_room 6 = .ok (.if_icmp .ge 79, 3) := by decide +kernel
theorem d_M_room_9 : decode b_M_room 9 = .ok (.aload_n 0, 1) := by decide +kernel
theorem d_M_room_10 : decode b_M_room 10 = .ok (.iload_n 1, 1) := by decide +kernel
theorem d_M_room_11 : decode b_M_room 11 = .ok (.iload_n 2, 1) := by decide +kernel
theorem d_M_room_12 : decode b_M_room 12 = .ok (.iload 4, 2) := by decide +kernel
theorem d_M_room_14 : decode b_M_room 14 = .ok (.invokevirtual 206, 3) := by decide +kernel
theorem d_M_room_17 : decode b_M_room 17 = .ok (.istore 5, 2) := by decide +kernel
theorem d_M_room_19 : decode b_M_room 19 = .ok (.iload 5, 2) := by decide +kernel
theorem d_M_room_21 : decode b_M_room 21 = .ok (.ifCond .ge 6, 3) := by decide +kernel
theorem d_M_room_24 : decode b_M_room 24 = .ok (.goto 55, 3) := by decide +kernel
theorem d_M_room_27 : decode b_M_room 27 = .ok (.iconst 0, 1) := by decide +kernel
theorem d_M_room_28 : decode b_M_room 28 = .ok (.istore 6, 2) := by decide +kernel
theorem d_M_room_30 : decode b_M_room 30 = .ok (.aload_n 0, 1) := by decide +kernel
theorem d_M_room_31 : decode b_M_room 31 = .ok (.iload 5, 2) := by decide +kernel
theorem d_M_room_33 : decode b_M_room 33 = .ok (.iload 6, 2) := by decide +kernel
theorem d_M_room_35 : decode b_M_room 35 = .ok (.invokevirtual 43, 3) := by decide +kernel
theorem d_M_room_38 : decode b_M_room 38 = .ok (.ifCond .eq 16, 3) := by decide +kernel
theorem d_M_room_41 : decode b_M_room 41 = .ok (.aload_n 0, 1) := by decide +kernel
theorem d_M_room_42 : decode b_M_room 42 = .ok (.iload 5, 2) := by decide +kernel
theorem d_M_room_44 : decode b_M_room 44 = .ok (.iload 6, 2) := by decide +kernel
theorem d_M_room_46 : decode b_M_room 46 = .ok (.invokevirtual 47, 3) := by decide +kernel
theorem d_M_room_49 : decode b_M_room 49 = .ok (.istore 6, 2) := by decide +kernel
theorem d_M_room_51 : decode b_M_room 51 = .ok (.goto (-21), 3) := by decide +kernel
theorem d_M_room_54 : decode b_M_room 54 = .ok (.iload 6, 2) := by decide +kernel
theorem d_M_room_56 : decode b_M_room 56 = .ok (.bipush 20, 2) := by decide +kernel
theorem d_M_room_58 : decode b_M_room 58 = .ok (.iadd, 1) := by decide +kernel
theorem d_M_room_59 : decode b_M_room 59 = .ok (.iconst 4, 1) := by decide +kernel
theorem d_M_room_60 : decode b_M_room 60 = .ok (.iadd, 1) := by decide +kernel
theorem d_M_room_61 : decode b_M_room 61 = .ok (.iload_n 3, 1) := by decide +kernel
theorem d_M_room_62 : decode b_M_room 62 = .ok (.iadd, 1) := by decide +kernel
theorem d_M_room_63 : decode b_M_room 63 = .ok (.sipush 600, 3) := by decide +kernel
theorem d_M_room_66 : decode b_M_room 66 = .ok (.if_icmp .gt 13, 3) := by decide +kernel
theorem d_M_room_69 : decode b_M_room 69 = .ok (.sipush 600, 3) := by decide +kernel
theorem d_M_room_72 : decode b_M_room 72 = .ok (.iload 5, 2) := by decide +kernel
theorem d_M_room_74 : decode b_M_room 74 = .ok (.imul, 1) := by decide +kernel
theorem d_M_room_75 : decode b_M_room 75 = .ok (.iload 6, 2) := by decide +kernel
theorem d_M_room_77 : decode b_M_room 77 = .ok (.iadd, 1) := by decide +kernel
theorem d_M_room_78 : decode b_M_room 78 = .ok (.ireturn, 1) := by decide +kernel
theorem d_M_room_79 : decode b_M_room 79 = .ok (.iinc 4 1, 3) := by decide +kernel
theorem d_M_room_82 : decode b_M_room 82 = .ok (.goto (-79), 3) := by decide +kernel
theorem d_M_room_85 : decode b_M_room 85 = .ok (.iconst (-1), 1) := by decide +kernel
theorem d_M_room_86 : decode b_M_room 86 = .ok (.ireturn, 1) := by decide +kernel
theorem d_M_store_0 : decode b_M_store 0 = .ok (.iload_n 1, 1) := by decide +kernel
theorem d_M_store_1 : decode b_M_store 1 = .ok (.invokestatic 192, 3) := by decide +kernel
theorem d_M_store_4 : decode b_M_store 4 = .ok (.ifCond .eq 13, 3) := by decide +kernel
theorem d_M_store_7 : decode b_M_store 7 = .ok (.iload_n 3, 1) := by decide +kernel
theorem d_M_store_8 : decode b_M_store 8 = .ok (.ifCond .lt 9, 3) := by decide +kernel
theorem d_M_store_11 : decode b_M_store 11 = .ok (.iload_n 3, 1) := by decide +kernel
theorem d_M_store_12 : decode b_M_store 12 = .ok (.bipush 60, 2) := by decide +kernel
theorem d_M_store_14 : decode b_M_store 14 = .ok (.if_icmp .le 7, 3) := by decide +kernel
theorem d_M_store_17 : decode b_M_store 17 = .ok (.iconst 1, 1) := by decide +kernel
theorem d_M_store_18 : decode b_M_store 18 = .ok (.goto 4, 3) := by decide +kernel
theorem d_M_store_21 : decode b_M_store 21 = .ok (.iconst 0, 1) := by decide +kernel
theorem d_M_store_22 : decode b_M_store 22 = .ok (.istore 4, 2) := by decide +kernel
theorem d_M_store_24 : decode b_M_store 24 = .ok (.iload 4, 2) := by decide +kernel
theorem d_M_store_26 : decode b_M_store 26 = .ok (.ifCond .ne 15, 3) := by decide +kernel
theorem d_M_store_29 : decode b_M_store 29 = .ok (.aload_n 0, 1) := by decide +kernel
theorem d_M_store_30 : decode b_M_store 30 = .ok (.iload_n 1, 1) := by decide +kernel
theorem d_M_store_31 : decode b_M_store 31 = .ok (.invokevirtual 198, 3) := by decide +kernel
theorem d_M_store_34 : decode b_M_store 34 = .ok (.ifCond .ne 7, 3) := by decide +kernel
theorem d_M_store_37 : decode b_M_store 37 = .ok (.iconst 1, 1) := by decide +kernel
theorem d_M_store_38 : decode b_M_store 38 = .ok (.goto 4, 3) := by decide +kernel
theorem d_M_store_41 : decode b_M_store 41 = .ok (.iconst 0, 1) := by decide +kernel
theorem d_M_store_42 : decode b_M_store 42 = .ok (.istore 5, 2) := by decide +kernel
theorem d_M_store_44 : decode b_M_store 44 = .ok (.iload 4, 2) := by decide +kernel
theorem d_M_store_46 : decode b_M_store 46 = .ok (.ifCond .ne 8, 3) := by decide +kernel
theorem d_M_store_49 : decode b_M_store 49 = .ok (.iload 5, 2) := by decide +kernel
theorem d_M_store_51 : decode b_M_store 51 = .ok (.ifCond .eq 7, 3) := by decide +kernel
theorem d_M_store_54 : decode b_M_store 54 = .ok (.iconst (-1), 1) := by decide +kernel
theorem d_M_store_55 : decode b_M_store 55 = .ok (.goto 9, 3) := by decide +kernel
theorem d_M_store_58 : decode b_M_store 58 = .ok (.aload_n 0, 1) := by decide +kernel
theorem d_M_store_59 : decode b_M_store 59 = .ok (.iload_n 1, 1) := by decide +kernel
theorem d_M_store_60 : decode b_M_store 60 = .ok (.iload_n 2, 1) := by decide +kernel
theorem d_M_store_61 : decode b_M_store 61 = .ok (.invokevirtual 213, 3) := by decide +kernel
theorem d_M_store_64 : decode b_M_store 64 = .ok (.istore 6, 2) := by decide +kernel
theorem d_M_store_66 : decode b_M_store 66 = .ok (.iload 6, 2) := by decide +kernel
theorem d_M_store_68 : decode b_M_store 68 = .ok (.ifCond .lt 8, 3) := by decide +kernel
theorem d_M_store_71 : decode b_M_store 71 = .ok (.iload 6, 2) := by decide +kernel
theorem d_M_store_73 : decode b_M_store 73 = .ok (.goto 24, 3) := by decide +kernel
theorem d_M_store_76 : decode b_M_store 76 = .ok (.iload 4, 2) := by decide +kernel
theorem d_M_store_78 : decode b_M_store 78 = .ok (.ifCond .ne 8, 3) := by decide +kernel
theorem d_M_store_81 : decode b_M_store 81 = .ok (.iload 5, 2) := by decide +kernel
theorem d_M_store_83 : decode b_M_store 83 = .ok (.ifCond .eq 7, 3) := by decide +kernel
theorem d_M_store_86 : decode b_M_store 86 = .ok (.iconst (-1), 1) := by decide +kernel
theorem d_M_store_87 : decode b_M_store 87 = .ok (.goto 10, 3) := by decide +kernel
theorem d_M_store_90 : decode b_M_store 90 = .ok (.aload_n 0, 1) := by decide +kernel
theorem d_M_store_91 : decode b_M_store 91 = .ok (.iload_n 1, 1) := by decide +kernel
theorem d_M_store_92 : decode b_M_store 92 = .ok (.iload_n 2, 1) := by decide +kernel
theorem d_M_store_93 : decode b_M_store 93 = .ok (.iload_n 3, 1) := by decide +kernel
theorem d_M_store_94 : decode b_M_store 94 = .ok (.invokevirtual 216, 3) := by decide +kernel
theorem d_M_store_97 : decode b_M_store 97 = .ok (.istore 7, 2) := by decide +kernel
theorem d_M_store_99 : decode b_M_store 99 = .ok (.iload 6, 2) := by decide +kernel
theorem d_M_store_101 : decode b_M_store 101 = .ok (.ifCond .lt 27, 3) := by decide +kernel
theorem d_M_store_104 : decode b_M_store 104 = .ok (.aload_n 0, 1) := by decide +kernel
theorem d_M_store_105 : decode b_M_store 105 = .ok (.iload 6, 2) := by decide +kernel
theorem d_M_store_107 : decode b_M_store 107 = .ok (.sipush 600, 3) := by decide +kernel
theorem d_M_store_110 : decode b_M_store 110 = .ok (.idiv, 1) := by decide +kernel
theorem d_M_store_111 : decode b_M_store 111 = .ok (.iload 6, 2) := by decide +kernel
theorem d_M_store_113 : decode b_M_store 113 = .ok (.sipush 600, 3) := by decide +kernel
theorem d_M_store_116 : decode b_M_store 116 = .ok (.irem, 1) := by decide +kernel
theorem d_M_store_117 : decode b_M_store 117 = .ok (.invokevirtual 40, 3) := by decide +kernel
theorem d_M_store_120 : decode b_M_store 120 = .ok (.iload_n 3, 1) := by decide +kernel
theorem d_M_store_121 : decode b_M_store 121 = .ok (.if_icmp .eq 7, 3) := by decide +kernel
theorem d_M_store_124 : decode b_M_store 124 = .ok (.iconst 1, 1) := by decide +kernel
theorem d_M_store_125 : decode b_M_store 125 = .ok (.goto 4, 3) := by decide +kernel
theorem d_M_store_128 : decode b_M_store 128 = .ok (.iconst 0, 1) := by decide +kernel
theorem d_M_store_129 : decode b_M_store 129 = .ok (.istore 8, 2) := by decide +kernel
theorem d_M_store_131 : decode b_M_store 131 = .ok (.aload_n 0, 1) := by decide +kernel
theorem d_M_store_132 : decode b_M_store 132 = .ok (.iload 4, 2) := by decide +kernel
theorem d_M_store_134 : decode b_M_store 134 = .ok (.iload 5, 2) := by decide +kernel
theorem d_M_store_136 : decode b_M_store 136 = .ok (.ifCond .ne 13, 3) := by decide +kernel
theorem d_M_store_139 : decode b_M_store 139 = .ok (.iload 8, 2) := by decide +kernel
theorem d_M_store_141 : decode b_M_store 141 = .ok (.ifCond .ne 8, 3) := by decide +kernel
theorem d_M_store_144 : decode b_M_store 144 = .ok (.iload 7, 2) := by decide +kernel
theorem d_M_store_146 : decode b_M_store 146 = .ok (.ifCond .ge 7, 3) := by decide +kernel
theorem d_M_store_149 : decode b_M_store 149 = .ok (.iconst 1, 1) := by decide +kernel
theorem d_M_store_150 : decode b_M_store 150 = .ok (.goto 4, 3) := by decide +kernel
theorem d_M_store_153 : decode b_M_store 153 = .ok (.iconst 0, 1) := by decide +kernel
theorem d_M_store_154 : decode b_M_store 154 = .ok (.invokevirtual 53, 3) := by decide +kernel
theorem d_M_store_157 : decode b_M_store 157 = .ok (.ifCond .eq 5, 3) := by decide +kernel
theorem d_M_store_160 : decode b_M_store 160 = .ok (.iconst 0, 1) := by decide +kernel
theorem d_M_store_161 : decode b_M_store 161 = .ok (.ireturn, 1) := by decide +kernel
theorem d_M_store_162 : decode b_M_store 162 = .ok (.iload 7, 2) := by decide +kernel
theorem d_M_store_164 : decode b_M_store 164 = .ok (.sipush 600, 3) := by decide +kernel
theorem d_M_store_167 : decode b_M_store 167 = .ok (.idiv, 1) := by decide +kernel
theorem d_M_store_168 : decode b_M_store 168 = .ok (.istore 9, 2) := by decide +kernel
theorem d_M_store_170 : decode b_M_store 170 = .ok (.iload 7, 2) := by decide +kernel
theorem d_M_store_172 : decode b_M_store 172 = .ok (.sipush 600, 3) := by decide +kernel
theorem d_M_store_175 : decode b_M_store 175 = .ok (.irem, 1) := by decide +kernel
theorem d_M_store_176 : decode b_M_store 176 = .ok (.istore 10, 2) := by decide +kernel
theorem d_M_store_178 : decode b_M_store 178 = .ok (.aload_n 0, 1) := by decide +kernel
theorem d_M_store_179 : decode b_M_store 179 = .ok (.iload 9, 2) := by decide +kernel
theorem d_M_store_181 : decode b_M_store 181 = .ok (.iload 10, 2) := by decide +kernel
theorem d_M_store_183 : decode b_M_store 183 = .ok (.iconst 4, 1) := by decide +kernel
theorem d_M_store_184 : decode b_M_store 184 = .ok (.iload_n 3, 1) := by decide +kernel
theorem d_M_store_185 : decode b_M_store 185 = .ok (.invokevirtual 147, 3) := by decide +kernel
theorem d_M_store_188 : decode b_M_store 188 = .ok (.iconst 0, 1) := by decide +kernel
theorem d_M_store_189 : decode b_M_store 189 = .ok (.istore 11, 2) := by decide +kernel
theorem d_M_store_191 : decode b_M_store 191 = .ok (.iload 11, 2) := by decide +kernel
theorem d_M_store_193 : decode b_M_store 193 = .ok (.iconst 4, 1) := by decide +kernel
theorem d_M_store_194 : decode b_M_store 194 = .ok (.if_icmp .ge 29, 3) := by decide +kernel
theorem d_M_store_197 : decode b_M_store 197 = .ok (.aload_n 0, 1) := by decide +kernel
theorem d_M_store_198 : decode b_M_store 198 = .ok (.iload 9, 2) := by decide +kernel
theorem d_M_store_200 : decode b_M_store 200 = .ok (.iload 10, 2) := by decide +kernel
theorem d_M_store_202 : decode b_M_store 202 = .ok (.iload 11, 2) := by decide +kernel
theorem d_M_store_204 : decode b_M_store 204 = .ok (.iload_n 2, 1) := by decide +kernel
theorem d_M_store_205 : decode b_M_store 205 = .ok (.bipush 24, 2) := by decide +kernel
theorem d_M_store_207 : decode b_M_store 207 = .ok (.bipush 8, 2) := by decide +kernel
theorem d_M_store_209 : decode b_M_store 209 = .ok (.iload 11, 2) := by decide +kernel
theorem d_M_store_211 : decode b_M_store 211 = .ok (.imul, 1) := by decide +kernel
theorem d_M_store_212 : decode b_M_store 212 = .ok (.isub, 1) := by decide +kernel
theorem d_M_store_213 : decode b_M_store 213 = .ok (.ishr, 1) := by decide +kernel
theorem d_M_store_214 : decode b_M_store 214 = .ok (.invokevirtual 136, 3) := by decide +kernel
theorem d_M_store_217 : decode b_M_store 217 = .ok (.iinc 11 1, 3) := by decide +kernel
theorem d_M_store_220 : decode b_M_store 220 = .ok (.goto (-29), 3) := by decide +kernel
theorem d_M_store_223 : decode b_M_store 223 = .ok (.iconst 0, 1) := by decide +kernel
theorem d_M_store_224 : decode b_M_store 224 = .ok (.istore 11, 2) := by decide +kernel
theorem d_M_store_226 : decode b_M_store 226 = .ok (.iload 11, 2) := by decide +kernel
theorem d_M_store_228 : decode b_M_store 228 = .ok (.iload_n 3, 1) := by decide +kernel
theorem d_M_store_229 : decode b_M_store 229 = .ok (.if_icmp .ge 28, 3) := by decide +kernel
theorem d_M_store_232 : decode b_M_store 232 = .ok (.aload_n 0, 1) := by decide +kernel
theorem d_M_store_233 : decode b_M_store 233 = .ok (.iload 9, 2) := by decide +kernel
theorem d_M_store_235 : decode b_M_store 235 = .ok (.iload 10, 2) := by decide +kernel
theorem d_M_store_237 : decode b_M_store 237 = .ok (.iconst 4, 1) := by decide +kernel
theorem d_M_store_238 : decode b_M_store 238 = .ok (.iload 11, 2) := by decide +kernel
theorem d_M_store_240 : decode b_M_store 240 = .ok (.iadd, 1) := by decide +kernel
theorem d_M_store_241 : decode b_M_store 241 = .ok (.aload_n 0, 1) := by decide +kernel
theorem d_M_store_242 : decode b_M_store 242 = .ok (.getfield 16, 3) := by decide +kernel
theorem d_M_store_245 : decode b_M_store 245 = .ok (.iload 11, 2) := by decide +kernel
theorem d_M_store_247 : decode b_M_store 247 = .ok (.iaload, 1) := by decide +kernel
theorem d_M_store_248 : decode b_M_store 248 = .ok (.invokevirtual 136, 3) := by decide +kernel
theorem d_M_store_251 : decode b_M_store 251 = .ok (.iinc 11 1, 3) := by decide +kernel
theorem d_M_store_254 : decode b_M_store 254 = .ok (.goto (-28), 3) := by decide +kernel
theorem d_M_store_257 : decode b_M_store 257 = .ok (.iload 9, 2) := by decide +kernel
theorem d_M_store_259 : decode b_M_store 259 = .ok (.ireturn, 1) := by decide +kernel
theorem d_M_fetch_0 : decode b_M_fetch 0 = .ok (.iload_n 1, 1) := by decide +kernel
theorem d_M_fetch_1 : decode b_M_fetch 1 = .ok (.invokestatic 192, 3) := by decide +kernel
theorem d_M_fetch_4 : decode b_M_fetch 4 = .ok (.ifCond .ne 7, 3) := by decide +kernel
theorem d_M_fetch_7 : decode b_M_fetch 7 = .ok (.iconst 1, 1) := by decide +kernel
theorem d_M_fetch_8 : decode b_M_fetch 8 = .ok (.goto 4, 3) := by decide +kernel
theorem d_M_fetch_11 : decode b_M_fetch 11 = .ok (.iconst 0, 1) := by decide +kernel
theorem d_M_fetch_12 : decode b_M_fetch 12 = .ok (.istore_n 3, 1) := by decide +kernel
theorem d_M_fetch_13 : decode b_M_fetch 13 = .ok (.aload_n 0, 1) := by decide +kernel
theorem d_M_fetch_14 : decode b_M_fetch 14 = .ok (.iload_n 3, 1) := by decide +kernel
theorem d_M_fetch_15 : decode b_M_fetch 15 = .ok (.iload_n 3, 1) := by decide +kernel
theorem d_M_fetch_16 : decode b_M_fetch 16 = .ok (.ifCond .ne 15, 3) := by decide +kernel
theorem d_M_fetch_19 : decode b_M_fetch 19 = .ok (.aload_n 0, 1) := by decide +kernel
theorem d_M_fetch_20 : decode b_M_fetch 20 = .ok (.iload_n 1, 1) := by decide +kernel
theorem d_M_fetch_21 : decode b_M_fetch 21 = .ok (.invokevirtual 198, 3) := by decide +kernel
theorem d_M_fetch_24 : decode b_M_fetch 24 = .ok (.ifCond .ne 7, 3) := by decide +kernel
theorem d_M_fetch_27 : decode b_M_fetch 27 = .ok (.iconst 1, 1) := by decide +kernel
theorem d_M_fetch_28 : decode b_M_fetch 28 = .ok (.goto 4, 3) := by decide +kernel
theorem d_M_fetch_31 : decode b_M_fetch 31 = .ok (.iconst 0, 1) := by decide +kernel
theorem d_M_fetch_32 : decode b_M_fetch 32 = .ok (.invokevirtual 53, 3) := by decide +kernel
theorem d_M_fetch_35 : decode b_M_fetch 35 = .ok (.ifCond .eq 5, 3) := by decide +kernel
theorem d_M_fetch_38 : decode b_M_fetch 38 = .ok (.iconst 0, 1) := by decide +kernel
theorem d_M_fetch_39 : decode b_M_fetch 39 = .ok (.ireturn, 1) := by decide +kernel
theorem d_M_fetch_40 : decode b_M_fetch 40 = .ok (.aload_n 0, 1) := by decide +kernel
theorem d_M_fetch_41 : decode b_M_fetch 41 = .ok (.iload_n 1, 1) := by decide +kernel
theorem d_M_fetch_42 : decode b_M_fetch 42 = .ok (.iload_n 2, 1) := by decide +kernel
theorem d_M_fetch_43 : decode b_M_fetch 43 = .ok (.invokevirtual 213, 3) := by decide +kernel
theorem d_M_fetch_46 : decode b_M_fetch 46 = .ok (.istore 4, 2) := by decide +kernel
theorem d_M_fetch_48 : decode b_M_fetch 48 = .ok (.iload 4, 2) := by decide +kernel
theorem d_M_fetch_50 : decode b_M_fetch 50 = .ok (.ifCond .ge 5, 3) := by decide +kernel
theorem d_M_fetch_53 : decode b_M_fetch 53 = .ok (.iconst (-1), 1) := by decide +kernel
theorem d_M_fetch_54 : decode b_M_fetch 54 = .ok (.ireturn, 1) := by decide +kernel
theorem d_M_fetch_55 : decode b_M_fetch 55 = .ok (.iload 4, 2) := by decide +kernel
theorem d_M_fetch_57 : decode b_M_fetch 57 = .ok (.sipush 600, 3) := by decide +kernel
theorem d_M_fetch_60 : decode b_M_fetch 60 = .ok (.idiv, 1) := by decide +kernel
theorem d_M_fetch_61 : decode b_M_fetch 61 = .ok (.istore 5, 2) := by decide +kernel
theorem d_M_fetch_63 : decode b_M_fetch 63 = .ok (.iload 4, 2) := by decide +kernel
theorem d_M_fetch_65 : decode b_M_fetch 65 = .ok (.sipush 600, 3) := by decide +kernel
theorem d_M_fetch_68 : decode b_M_fetch 68 = .ok (.irem, 1) := by decide +kernel
theorem d_M_fetch_69 : decode b_M_fetch 69 = .ok (.istore 6, 2) := by decide +kernel
theorem d_M_fetch_71 : decode b_M_fetch 71 = .ok (.aload_n 0, 1) := by decide +kernel
theorem d_M_fetch_72 : decode b_M_fetch 72 = .ok (.iload 5, 2) := by decide +kernel
theorem d_M_fetch_74 : decode b_M_fetch 74 = .ok (.iload 6, 2) := by decide +kernel
theorem d_M_fetch_76 : decode b_M_fetch 76 = .ok (.invokevirtual 129, 3) := by decide +kernel
theorem d_M_fetch_79 : decode b_M_fetch 79 = .ok (.ifCond .eq 6, 3) := by decide +kernel
theorem d_M_fetch_82 : decode b_M_fetch 82 = .ok (.bipush (-2), 2) := by decide +kernel
theorem d_M_fetch_84 : decode b_M_fetch 84 = .ok (.ireturn, 1) := by decide +kernel
theorem d_M_fetch_85 : decode b_M_fetch 85 = .ok (.aload_n 0, 1) := by decide +kernel
theorem d_M_fetch_86 : decode b_M_fetch 86 = .ok (.iload 5, 2) := by decide +kernel
theorem d_M_fetch_88 : decode b_M_fetch 88 = .ok (.iload 6, 2) := by decide +kernel
theorem d_M_fetch_90 : decode b_M_fetch 90 = .ok (.invokevirtual 40, 3) := by decide +kernel
theorem d_M_fetch_93 : decode b_M_fetch 93 = .ok (.istore 7, 2) := by decide +kernel
theorem d_M_fetch_95 : decode b_M_fetch 95 = .ok (.iconst 0, 1) := by decide +kernel
theorem d_M_fetch_96 : decode b_M_fetch 96 = .ok (.istore 8, 2) := by decide +kernel
theorem d_M_fetch_98 : decode b_M_fetch 98 = .ok (.iload 8, 2) := by decide +kernel
theorem d_M_fetch_100 : decode b_M_fetch 100 = .ok (.iload 7, 2) := by decide +kernel
theorem d_M_fetch_102 : decode b_M_fetch 102 = .ok (.if_icmp .ge 28, 3) := by decide +kernel
theorem d_M_fetch_105 : decode b_M_fetch 105 = .ok (.aload_n 0, 1) := by decide +kernel
theorem d_M_fetch_106 : decode b_M_fetch 106 = .ok (.getfield 16, 3) := by decide +kernel
theorem d_M_fetch_109 : decode b_M_fetch 109 = .ok (.iload 8, 2) := by decide +kernel
theorem d_M_fetch_111 : decode b_M_fetch 111 = .ok (.aload_n 0, 1) := by decide +kernel
theorem d_M_fetch_112 : decode b_M_fetch 112 = .ok (.iload 5, 2) := by decide +kernel
theorem d_M_fetch_114 : decode b_M_fetch 114 = .ok (.iload 6, 2) := by decide +kernel
theorem d_M_fetch_116 : decode b_M_fetch 116 = .ok (.iconst 4, 1) := by decide +kernel
theorem d_M_fetch_117 : decode b_M_fetch 117 = .ok (.iload 8, 2) := by decide +kernel
theorem d_M_fetch_119 : decode b_M_fetch 119 = .ok (.iadd, 1) := by decide +kernel
theorem d_M_fetch_120 : decode b_M_fetch 120 = .ok (.invokevirtual 103, 3) := by decide +kernel
theorem d_M_fetch_123 : decode b_M_fetch 123 = .ok (.iastore, 1) := by decide +kernel
theorem d_M_fetch_124 : decode b_M_fetch 124 = .ok (.iinc 8 1, 3) := by decide +kernel
theorem d_M_fetch_127 : decode b_M_fetch 127 = .ok (.goto (-29), 3) := by decide +kernel
theorem d_M_fetch_130 : decode b_M_fetch 130 = .ok (.iload 7, 2) := by decide +kernel
theorem d_M_fetch_132 : decode b_M_fetch 132 = .ok (.ireturn, 1) := by decide +kernel
