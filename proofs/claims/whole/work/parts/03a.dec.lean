theorem d_B_init_0 : decode b_B_init 0 = .ok (.aload_n 0, 1) := by decide +kernel
theorem d_B_init_1 : decode b_B_init 1 = .ok (.invokespecial 1, 3) := by decide +kernel
theorem d_B_init_4 : decode b_B_init 4 = .ok (.aload_n 0, 1) := by decide +kernel
theorem d_B_init_5 : decode b_B_init 5 = .ok (.iload_n 1, 1) := by decide +kernel
theorem d_B_init_6 : decode b_B_init 6 = .ok (.iconst 3, 1) := by decide +kernel
theorem d_B_init_7 : decode b_B_init 7 = .ok (.iadd, 1) := by decide +kernel
theorem d_B_init_8 : decode b_B_init 8 = .ok (.iconst 4, 1) := by decide +kernel
theorem d_B_init_9 : decode b_B_init 9 = .ok (.idiv, 1) := by decide +kernel
theorem d_B_init_10 : decode b_B_init 10 = .ok (.newarray .int, 2) := by decide +kernel
theorem d_B_init_12 : decode b_B_init 12 = .ok (.putfield 7, 3) := by decide +kernel
theorem d_B_init_15 : decode b_B_init 15 = .ok (.return_, 1) := by decide +kernel
theorem d_B_get_0 : decode b_B_get 0 = .ok (.iload_n 1, 1) := by decide +kernel
theorem d_B_get_1 : decode b_B_get 1 = .ok (.iconst 4, 1) := by decide +kernel
theorem d_B_get_2 : decode b_B_get 2 = .ok (.irem, 1) := by decide +kernel
theorem d_B_get_3 : decode b_B_get 3 = .ok (.bipush 8, 2) := by decide +kernel
theorem d_B_get_5 : decode b_B_get 5 = .ok (.imul, 1) := by decide +kernel
theorem d_B_get_6 : decode b_B_get 6 = .ok (.istore_n 2, 1) := by decide +kernel
theorem d_B_get_7 : decode b_B_get 7 = .ok (.aload_n 0, 1) := by decide +kernel
theorem d_B_get_8 : decode b_B_get 8 = .ok (.getfield 7, 3) := by decide +kernel
theorem d_B_get_11 : decode b_B_get 11 = .ok (.iload_n 1, 1) := by decide +kernel
theorem d_B_get_12 : decode b_B_get 12 = .ok (.iconst 4, 1) := by decide +kernel
theorem d_B_get_13 : decode b_B_get 13 = .ok (.idiv, 1) := by decide +kernel
theorem d_B_get_14 : decode b_B_get 14 = .ok (.iaload, 1) := by decide +kernel
theorem d_B_get_15 : decode b_B_get 15 = .ok (.iload_n 2, 1) := by decide +kernel
theorem d_B_get_16 : decode b_B_get 16 = .ok (.iushr, 1) := by decide +kernel
theorem d_B_get_17 : decode b_B_get 17 = .ok (.sipush 255, 3) := by decide +kernel
theorem d_B_get_20 : decode b_B_get 20 = .ok (.iand, 1) := by decide +kernel
theorem d_B_get_21 : decode b_B_get 21 = .ok (.ireturn, 1) := by decide +kernel
theorem d_B_set_0 : decode b_B_set 0 = .ok (.iload_n 1, 1) := by decide +kernel
theorem d_B_set_1 : decode b_B_set 1 = .ok (.iconst 4, 1) := by decide +kernel
theorem d_B_set_2 : decode b_B_set 2 = .ok (.irem, 1) := by decide +kernel
theorem d_B_set_3 : decode b_B_set 3 = .ok (.bipush 8, 2) := by decide +kernel
theorem d_B_set_5 : decode b_B_set 5 = .ok (.imul, 1) := by decide +kernel
theorem d_B_set_6 : decode b_B_set 6 = .ok (.istore_n 3, 1) := by decide +kernel
theorem d_B_set_7 : decode b_B_set 7 = .ok (.aload_n 0, 1) := by decide +kernel
theorem d_B_set_8 : decode b_B_set 8 = .ok (.getfield 7, 3) := by decide +kernel
theorem d_B_set_11 : decode b_B_set 11 = .ok (.iload_n 1, 1) := by decide +kernel
theorem d_B_set_12 : decode b_B_set 12 = .ok (.iconst 4, 1) := by decide +kernel
theorem d_B_set_13 : decode b_B_set 13 = .ok (.idiv, 1) := by decide +kernel
theorem d_B_set_14 : decode b_B_set 14 = .ok (.iaload, 1) := by decide +kernel
theorem d_B_set_15 : decode b_B_set 15 = .ok (.sipush 255, 3) := by decide +kernel
theorem d_B_set_18 : decode b_B_set 18 = .ok (.iload_n 3, 1) := by decide +kernel
theorem d_B_set_19 : decode b_B_set 19 = .ok (.ishl, 1) := by decide +kernel
theorem d_B_set_20 : decode b_B_set 20 = .ok (.iconst (-1), 1) := by decide +kernel
theorem d_B_set_21 : decode b_B_set 21 = .ok (.ixor, 1) := by decide +kernel
theorem d_B_set_22 : decode b_B_set 22 = .ok (.iand, 1) := by decide +kernel
theorem d_B_set_23 : decode b_B_set 23 = .ok (.istore 4, 2) := by decide +kernel
theorem d_B_set_25 : decode b_B_set 25 = .ok (.aload_n 0, 1) := by decide +kernel
theorem d_B_set_26 : decode b_B_set 26 = .ok (.getfield 7, 3) := by decide +kernel
theorem d_B_set_29 : decode b_B_set 29 = .ok (.iload_n 1, 1) := by decide +kernel
theorem d_B_set_30 : decode b_B_set 30 = .ok (.iconst 4, 1) := by decide +kernel
theorem d_B_set_31 : decode b_B_set 31 = .ok (.idiv, 1) := by decide +kernel
theorem d_B_set_32 : decode b_B_set 32 = .ok (.iload 4, 2) := by decide +kernel
theorem d_B_set_34 : decode b_B_set 34 = .ok (.iload_n 2, 1) := by decide +kernel
theorem d_B_set_35 : decode b_B_set 35 = .ok (.sipush 255, 3) := by decide +kernel
theorem d_B_set_38 : decode b_B_set 38 = .ok (.iand, 1) := by decide +kernel
theorem d_B_set_39 : decode b_B_set 39 = .ok (.iload_n 3, 1) := by decide +kernel
theorem d_B_set_40 : decode b_B_set 40 = .ok (.ishl, 1) := by decide +kernel
theorem d_B_set_41 : decode b_B_set 41 = .ok (.ior, 1) := by decide +kernel
theorem d_B_set_42 : decode b_B_set 42 = .ok (.iastore, 1) := by decide +kernel
theorem d_B_set_43 : decode b_B_set 43 = .ok (.return_, 1) := by decide +kernel
theorem d_P_init_0 : decode b_P_init 0 = .ok (.aload_n 0, 1) := by decide +kernel
theorem d_P_init_1 : decode b_P_init 1 = .ok (.invokespecial 1, 3) := by decide +kernel
theorem d_P_init_4 : decode b_P_init 4 = .ok (.aload_n 0, 1) := by decide +kernel
theorem d_P_init_5 : decode b_P_init 5 = .ok (.bipush 16, 2) := by decide +kernel
theorem d_P_init_7 : decode b_P_init 7 = .ok (.newarray .int, 2) := by decide +kernel
theorem d_P_init_9 : decode b_P_init 9 = .ok (.putfield 9, 3) := by decide +kernel
theorem d_P_init_12 : decode b_P_init 12 = .ok (.aload_n 0, 1) := by decide +kernel
theorem d_P_init_13 : decode b_P_init 13 = .ok (.bipush 16, 2) := by decide +kernel
theorem d_P_init_15 : decode b_P_init 15 = .ok (.newarray .int, 2) := by decide +kernel
theorem d_P_init_17 : decode b_P_init 17 = .ok (.putfield 13, 3) := by decide +kernel
theorem d_P_init_20 : decode b_P_init 20 = .ok (.aload_n 0, 1) := by decide +kernel
theorem d_P_init_21 : decode b_P_init 21 = .ok (.bipush 16, 2) := by decide +kernel
theorem d_P_init_23 : decode b_P_init 23 = .ok (.newarray .int, 2) := by decide +kernel
theorem d_P_init_25 : decode b_P_init 25 = .ok (.putfield 16, 3) := by decide +kernel
theorem d_P_init_28 : decode b_P_init 28 = .ok (.return_, 1) := by decide +kernel
theorem d_P_isFull_0 : decode b_P_isFull 0 = .ok (.aload_n 0, 1) := by decide +kernel
theorem d_P_isFull_1 : decode b_P_isFull 1 = .ok (.getfield 19, 3) := by decide +kernel
theorem d_P_isFull_4 : decode b_P_isFull 4 = .ok (.bipush 16, 2) := by decide +kernel
theorem d_P_isFull_6 : decode b_P_isFull 6 = .ok (.if_icmp .ne 7, 3) := by decide +kernel
theorem d_P_isFull_9 : decode b_P_isFull 9 = .ok (.iconst 1, 1) := by decide +kernel
theorem d_P_isFull_10 : decode b_P_isFull 10 = .ok (.goto 4, 3) := by decide +kernel
theorem d_P_isFull_13 : decode b_P_isFull 13 = .ok (.iconst 0, 1) := by decide +kernel
theorem d_P_isFull_14 : decode b_P_isFull 14 = .ok (.ireturn, 1) := by decide +kernel
theorem d_P_clear_0 : decode b_P_clear 0 = .ok (.aload_n 0, 1) := by decide +kernel
theorem d_P_clear_1 : decode b_P_clear 1 = .ok (.iconst 0, 1) := by decide +kernel
theorem d_P_clear_2 : decode b_P_clear 2 = .ok (.putfield 19, 3) := by decide +kernel
theorem d_P_clear_5 : decode b_P_clear 5 = .ok (.return_, 1) := by decide +kernel
theorem d_P_add_0 : decode b_P_add 0 = .ok (.aload_n 0, 1) := by decide +kernel
theorem d_P_add_1 : decode b_P_add 1 = .ok (.getfield 9, 3) := by decide +kernel
theorem d_P_add_4 : decode b_P_add 4 = .ok (.aload_n 0, 1) := by decide +kernel
theorem d_P_add_5 : decode b_P_add 5 = .ok (.getfield 19, 3) := by decide +kernel
theorem d_P_add_8 : decode b_P_add 8 = .ok (.iload_n 1, 1) := by decide +kernel
theorem d_P_add_9 : decode b_P_add 9 = .ok (.iastore, 1) := by decide +kernel
theorem d_P_add_10 : decode b_P_add 10 = .ok (.aload_n 0, 1) := by decide +kernel
theorem d_P_add_11 : decode b_P_add 11 = .ok (.getfield 13, 3) := by decide +kernel
theorem d_P_add_14 : decode b_P_add 14 = .ok (.aload_n 0, 1) := by decide +kernel
theorem d_P_add_15 : decode b_P_add 15 = .ok (.getfield 19, 3) := by decide +kernel
theorem d_P_add_18 : decode b_P_add 18 = .ok (.iload_n 2, 1) := by decide +kernel
theorem d_P_add_19 : decode b_P_add 19 = .ok (.iastore, 1) := by decide +kernel
theorem d_P_add_20 : decode b_P_add 20 = .ok (.aload_n 0, 1) := by decide +kernel
theorem d_P_add_21 : decode b_P_add 21 = .ok (.getfield 16, 3) := by decide +kernel
theorem d_P_add_24 : decode b_P_add 24 = .ok (.aload_n 0, 1) := by decide +kernel
theorem d_P_add_25 : decode b_P_add 25 = .ok (.getfield 19, 3) := by decide +kernel
theorem d_P_add_28 : decode b_P_add 28 = .ok (.iload_n 3, 1) := by decide +kernel
theorem d_P_add_29 : decode b_P_add 29 = .ok (.iastore, 1) := by decide +kernel
theorem d_P_add_30 : decode b_P_add 30 = .ok (.aload_n 0, 1) := by decide +kernel
theorem d_P_add_31 : decode b_P_add 31 = .ok (.dup, 1) := by decide +kernel
theorem d_P_add_32 : decode b_P_add 32 = .ok (.getfield 19, 3) := by decide +kernel
theorem d_P_add_35 : decode b_P_add 35 = .ok (.iconst 1, 1) := by decide +kernel
theorem d_P_add_36 : decode b_P_add 36 = .ok (.iadd, 1) := by decide +kernel
theorem d_P_add_37 : decode b_P_add 37 = .ok (.putfield 19, 3) := by decide +kernel
theorem d_P_add_40 : decode b_P_add 40 = .ok (.return_, 1) := by decide +kernel
theorem d_T_init_0 : decode b_T_init 0 = .ok (.aload_n 0, 1) := by decide +kernel
theorem d_T_init_1 : decode b_T_init 1 = .ok (.invokespecial 3, 3) := by decide +kernel
theorem d_T_init_4 : decode b_T_init 4 = .ok (.aload_n 0, 1) := by decide +kernel
theorem d_T_init_5 : decode b_T_init 5 = .ok (.bipush 32, 2) := by decide +kernel
theorem d_T_init_7 : decode b_T_init 7 = .ok (.newarray .int, 2) := by decide +kernel
theorem d_T_init_9 : decode b_T_init 9 = .ok (.putfield 9, 3) := by decide +kernel
theorem d_T_init_12 : decode b_T_init 12 = .ok (.aload_n 0, 1) := by decide +kernel
theorem d_T_init_13 : decode b_T_init 13 = .ok (.bipush 31, 2) := by decide +kernel
theorem d_T_init_15 : decode b_T_init 15 = .ok (.newarray .int, 2) := by decide +kernel
theorem d_T_init_17 : decode b_T_init 17 = .ok (.putfield 15, 3) := by decide +kernel
theorem d_T_init_20 : decode b_T_init 20 = .ok (.aload_n 0, 1) := by decide +kernel
theorem d_T_init_21 : decode b_T_init 21 = .ok (.bipush 31, 2) := by decide +kernel
theorem d_T_init_23 : decode b_T_init 23 = .ok (.newarray .boolean, 2) := by decide +kernel
theorem d_T_init_25 : decode b_T_init 25 = .ok (.putfield 18, 3) := by decide +kernel
theorem d_T_init_28 : decode b_T_init 28 = .ok (.aload_n 0, 1) := by decide +kernel
theorem d_T_init_29 : decode b_T_init 29 = .ok (.new 22, 3) := by decide +kernel
theorem d_T_init_32 : decode b_T_init 32 = .ok (.dup, 1) := by decide +kernel
theorem d_T_init_33 : decode b_T_init 33 = .ok (.sipush 600, 3) := by decide +kernel
theorem d_T_init_36 : decode b_T_init 36 = .ok (.invokespecial 24, 3) := by decide +kernel
theorem d_T_init_39 : decode b_T_init 39 = .ok (.putfield 27, 3) := by decide +kernel
theorem d_T_init_42 : decode b_T_init 42 = .ok (.return_, 1) := by decide +kernel
theorem d_T_has_0 : decode b_T_has 0 = .ok (.iload_n 1, 1) := by decide +kernel
theorem d_T_has_1 : decode b_T_has 1 = .ok (.iconst 1, 1) := by decide +kernel
theorem d_T_has_2 : decode b_T_has 2 = .ok (.aload_n 0, 1) := by decide +kernel
theorem d_T_has_3 : decode b_T_has 3 = .ok (.getfield 31, 3) := by decide +kernel
theorem d_T_has_6 : decode b_T_has 6 = .ok (.invokestatic 35, 3) := by decide +kernel
theorem d_T_has_9 : decode b_T_has 9 = .ok (.ireturn, 1) := by decide +kernel
theorem d_T_beginOf_0 : decode b_T_beginOf 0 = .ok (.aload_n 0, 1) := by decide +kernel
theorem d_T_beginOf_1 : decode b_T_beginOf 1 = .ok (.getfield 9, 3) := by decide +kernel
theorem d_T_beginOf_4 : decode b_T_beginOf 4 = .ok (.iload_n 1, 1) := by decide +kernel
theorem d_T_beginOf_5 : decode b_T_beginOf 5 = .ok (.iaload, 1) := by decide +kernel
theorem d_T_beginOf_6 : decode b_T_beginOf 6 = .ok (.ireturn, 1) := by decide +kernel
theorem d_T_keyLength_0 : decode b_T_keyLength 0 = .ok (.aload_n 0, 1) := by decide +kernel
theorem d_T_keyLength_1 : decode b_T_keyLength 1 = .ok (.getfield 15, 3) := by decide +kernel
theorem d_T_keyLength_4 : decode b_T_keyLength 4 = .ok (.iload_n 1, 1) := by decide +kernel
theorem d_T_keyLength_5 : decode b_T_keyLength 5 = .ok (.iaload, 1) := by decide +kernel
theorem d_T_keyLength_6 : decode b_T_keyLength 6 = .ok (.ireturn, 1) := by decide +kernel
theorem d_T_dataLength_0 : decode b_T_dataLength 0 = .ok (.aload_n 0, 1) := by decide +kernel
theorem d_T_dataLength_1 : decode b_T_dataLength 1 = .ok (.getfield 9, 3) := by decide +kernel
theorem d_T_dataLength_4 : decode b_T_dataLength 4 = .ok (.iload_n 1, 1) := by decide +kernel
theorem d_T_dataLength_5 : decode b_T_dataLength 5 = .ok (.iconst 1, 1) := by decide +kernel
theorem d_T_dataLength_6 : decode b_T_dataLength 6 = .ok (.iadd, 1) := by decide +kernel
theorem d_T_dataLength_7 : decode b_T_dataLength 7 = .ok (.iaload, 1) := by decide +kernel
theorem d_T_dataLength_8 : decode b_T_dataLength 8 = .ok (.aload_n 0, 1) := by decide +kernel
theorem d_T_dataLength_9 : decode b_T_dataLength 9 = .ok (.iload_n 1, 1) := by decide +kernel
theorem d_T_dataLength_10 : decode b_T_dataLength 10 = .ok (.iconst 2, 1) := by decide +kernel
theorem d_T_dataLength_11 : decode b_T_dataLength 11 = .ok (.invokevirtual 39, 3) := by decide +kernel
theorem d_T_dataLength_14 : decode b_T_dataLength 14 = .ok (.isub, 1) := by decide +kernel
theorem d_T_dataLength_15 : decode b_T_dataLength 15 = .ok (.ireturn, 1) := by decide +kernel
theorem d_T_isSpoiled_0 : decode b_T_isSpoiled 0 = .ok (.aload_n 0, 1) := by decide +kernel
theorem d_T_isSpoiled_1 : decode b_T_isSpoiled 1 = .ok (.getfield 18, 3) := by decide +kernel
theorem d_T_isSpoiled_4 : decode b_T_isSpoiled 4 = .ok (.iload_n 1, 1) := by decide +kernel
theorem d_T_isSpoiled_5 : decode b_T_isSpoiled 5 = .ok (.baload, 1) := by decide +kernel
theorem d_T_isSpoiled_6 : decode b_T_isSpoiled 6 = .ok (.ireturn, 1) := by decide +kernel
theorem d_T_makeSpoiled_0 : decode b_T_makeSpoiled 0 = .ok (.aload_n 0, 1) := by decide +kernel
theorem d_T_makeSpoiled_1 : decode b_T_makeSpoiled 1 = .ok (.getfield 18, 3) := by decide +kernel
theorem d_T_makeSpoiled_4 : decode b_T_makeSpoiled 4 = .ok (.iload_n 1, 1) := by decide +kernel
theorem d_T_makeSpoiled_5 : decode b_T_makeSpoiled 5 = .ok (.iconst 1, 1) := by decide +kernel
theorem d_T_makeSpoiled_6 : decode b_T_makeSpoiled 6 = .ok (.bastore, 1) := by decide +kernel
theorem d_T_makeSpoiled_7 : decode b_T_makeSpoiled 7 = .ok (.return_, 1) := by decide +kernel
theorem d_T_contentByte_0 : decode b_T_contentByte 0 = .ok (.aload_n 0, 1) := by decide +kernel
theorem d_T_contentByte_1 : decode b_T_contentByte 1 = .ok (.getfield 27, 3) := by decide +kernel
theorem d_T_contentByte_4 : decode b_T_contentByte 4 = .ok (.aload_n 0, 1) := by decide +kernel
theorem d_T_contentByte_5 : decode b_T_contentByte 5 = .ok (.iload_n 1, 1) := by decide +kernel
theorem d_T_contentByte_6 : decode b_T_contentByte 6 = .ok (.iconst 1, 1) := by decide +kernel
theorem d_T_contentByte_7 : decode b_T_contentByte 7 = .ok (.invokevirtual 39, 3) := by decide +kernel
theorem d_T_contentByte_10 : decode b_T_contentByte 10 = .ok (.iload_n 2, 1) := by decide +kernel
theorem d_T_contentByte_11 : decode b_T_contentByte 11 = .ok (.iadd, 1) := by decide +kernel
theorem d_T_contentByte_12 : decode b_T_contentByte 12 = .ok (.invokevirtual 43, 3) := by decide +kernel
theorem d_T_contentByte_15 : decode b_T_contentByte 15 = .ok (.ireturn, 1) := by decide +kernel
theorem d_T_placeBehind_0 : decode b_T_placeBehind 0 = .ok (.iload_n 2, 1) := by decide +kernel
theorem d_T_placeBehind_1 : decode b_T_placeBehind 1 = .ok (.iconst 3, 1) := by decide +kernel
theorem d_T_placeBehind_2 : decode b_T_placeBehind 2 = .ok (.if_icmp .ne 12, 3) := by decide +kernel
theorem d_T_placeBehind_5 : decode b_T_placeBehind 5 = .ok (.aload_n 0, 1) := by decide +kernel
theorem d_T_placeBehind_6 : decode b_T_placeBehind 6 = .ok (.getfield 9, 3) := by decide +kernel
theorem d_T_placeBehind_9 : decode b_T_placeBehind 9 = .ok (.iload_n 1, 1) := by decide +kernel
theorem d_T_placeBehind_10 : decode b_T_placeBehind 10 = .ok (.iconst 1, 1) := by decide +kernel
theorem d_T_placeBehind_11 : decode b_T_placeBehind 11 = .ok (.iadd, 1) := by decide +kernel
theorem d_T_placeBehind_12 : decode b_T_placeBehind 12 = .ok (.iaload, 1) := by decide +kernel
theorem d_T_placeBehind_13 : decode b_T_placeBehind 13 = .ok (.ireturn, 1) := by decide +kernel
theorem d_T_placeBehind_14 : decode b_T_placeBehind 14 = .ok (.aload_n 0, 1) := by decide +kernel
theorem d_T_placeBehind_15 : decode b_T_placeBehind 15 = .ok (.getfield 9, 3) := by decide +kernel
theorem d_T_placeBehind_18 : decode b_T_placeBehind 18 = .ok (.iload_n 1, 1) := by decide +kernel
theorem d_T_placeBehind_19 : decode b_T_placeBehind 19 = .ok (.iaload, 1) := by decide +kernel
theorem d_T_placeBehind_20 : decode b_T_placeBehind 20 = .ok (.bipush 20, 2) := by decide +kernel
theorem d_T_placeBehind_22 : decode b_T_placeBehind 22 = .ok (.iadd, 1) := by decide +kernel
theorem d_T_placeBehind_23 : decode b_T_placeBehind 23 = .ok (.istore_n 3, 1) := by decide +kernel
theorem d_T_placeBehind_24 : decode b_T_placeBehind 24 = .ok (.iload_n 2, 1) := by decide +kernel
theorem d_T_placeBehind_25 : decode b_T_placeBehind 25 = .ok (.iconst 2, 1) := by decide +kernel
theorem d_T_placeBehind_26 : decode b_T_placeBehind 26 = .ok (.if_icmp .ne 14, 3) := by decide +kernel
theorem d_T_placeBehind_29 : decode b_T_placeBehind 29 = .ok (.iload_n 3, 1) := by decide +kernel
theorem d_T_placeBehind_30 : decode b_T_placeBehind 30 = .ok (.aload_n 0, 1) := by decide +kernel
theorem d_T_placeBehind_31 : decode b_T_placeBehind 31 = .ok (.getfield 15, 3) := by decide +kernel
theorem d_T_placeBehind_34 : decode b_T_placeBehind 34 = .ok (.iload_n 1, 1) := by decide +kernel
theorem d_T_placeBehind_35 : decode b_T_placeBehind 35 = .ok (.iaload, 1) := by decide +kernel
theorem d_T_placeBehind_36 : decode b_T_placeBehind 36 = .ok (.iadd, 1) := by decide +kernel
theorem d_T_placeBehind_37 : decode b_T_placeBehind 37 = .ok (.goto 4, 3) := by decide +kernel
theorem d_T_placeBehind_40 : decode b_T_placeBehind 40 = .ok (.iload_n 3, 1) := by decide +kernel
theorem d_T_placeBehind_41 : decode b_T_placeBehind 41 = .ok (.ireturn, 1) := by decide +kernel
theorem d_T_firstFrom_0 : decode b_T_firstFrom 0 = .ok (.iconst 1, 1) := by decide +kernel
theorem d_T_firstFrom_1 : decode b_T_firstFrom 1 = .ok (.istore_n 2, 1) := by decide +kernel
theorem d_T_firstFrom_2 : decode b_T_firstFrom 2 = .ok (.iload_n 2, 1) := by decide +kernel
theorem d_T_firstFrom_3 : decode b_T_firstFrom 3 = .ok (.aload_n 0, 1) := by decide +kernel
theorem d_T_firstFrom_4 : decode b_T_firstFrom 4 = .ok (.getfield 31, 3) := by decide +kernel
theorem d_T_firstFrom_7 : decode b_T_firstFrom 7 = .ok (.if_icmp .gt 21, 3) := by decide +kernel
theorem d_T_firstFrom_10 : decode b_T_firstFrom 10 = .ok (.aload_n 0, 1) := by decide +kernel
theorem d_T_firstFrom_11 : decode b_T_firstFrom 11 = .ok (.getfield 9, 3) := by decide +kernel
theorem d_T_firstFrom_14 : decode b_T_firstFrom 14 = .ok (.iload_n 2, 1) := by decide +kernel
theorem d_T_firstFrom_15 : decode b_T_firstFrom 15 = .ok (.iaload, 1) := by decide +kernel
theorem d_T_firstFrom_16 : decode b_T_firstFrom 16 = .ok (.iload_n 1, 1) := by decide +kernel
theorem d_T_firstFrom_17 : decode b_T_firstFrom 17 = .ok (.if_icmp .lt 5, 3) := by decide +kernel
theorem d_T_firstFrom_20 : decode b_T_firstFrom 20 = .ok (.iload_n 2, 1) := by decide +kernel
theorem d_T_firstFrom_21 : decode b_T_firstFrom 21 = .ok (.ireturn, 1) := by decide +kernel
theorem d_T_firstFrom_22 : decode b_T_firstFrom 22 = .ok (.iinc 2 1, 3) := by decide +kernel
theorem d_T_firstFrom_25 : decode b_T_firstFrom 25 = .ok (.goto (-23), 3) := by decide +kernel
theorem d_T_firstFrom_28 : decode b_T_firstFrom 28 = .ok (.iconst 1, 1) := by decide +kernel
theorem d_T_firstFrom_29 : decode b_T_firstFrom 29 = .ok (.ireturn, 1) := by decide +kernel
theorem d_T_numberBehind_0 : decode b_T_numberBehind 0 = .ok (.iload_n 1, 1) := by decide +kernel
theorem d_T_numberBehind_1 : decode b_T_numberBehind 1 = .ok (.aload_n 0, 1) := by decide +kernel
theorem d_T_numberBehind_2 : decode b_T_numberBehind 2 = .ok (.getfield 31, 3) := by decide +kernel
theorem d_T_numberBehind_5 : decode b_T_numberBehind 5 = .ok (.if_icmp .ge 9, 3) := by decide +kernel
theorem d_T_numberBehind_8 : decode b_T_numberBehind 8 = .ok (.iload_n 1, 1) := by decide +kernel
theorem d_T_numberBehind_9 : decode b_T_numberBehind 9 = .ok (.iconst 1, 1) := by decide +kernel
theorem d_T_numberBehind_10 : decode b_T_numberBehind 10 = .ok (.iadd, 1) := by decide +kernel
theorem d_T_numberBehind_11 : decode b_T_numberBehind 11 = .ok (.goto 4, 3) := by decide +kernel
theorem d_T_numberBehind_14 : decode b_T_numberBehind 14 = .ok (.iconst 1, 1) := by decide +kernel
theorem d_T_numberBehind_15 : decode b_T_numberBehind 15 = .ok (.ireturn, 1) := by decide +kernel
theorem d_T_hasRoomBehind_0 : decode b_T_hasRoomBehind 0 = .ok (.aload_n 0, 1) := by decide +kernel
theorem d_T_hasRoomBehind_1 : decode b_T_hasRoomBehind 1 = .ok (.getfield 9, 3) := by decide +kernel
theorem d_T_hasRoomBehind_4 : decode b_T_hasRoomBehind 4 = .ok (.iload_n 1, 1) := by decide +kernel
theorem d_T_hasRoomBehind_5 : decode b_T_hasRoomBehind 5 = .ok (.iconst 1, 1) := by decide +kernel
theorem d_T_hasRoomBehind_6 : decode b_T_hasRoomBehind 6 = .ok (.iadd, 1) := by decide +kernel
theorem d_T_hasRoomBehind_7 : decode b_T_hasRoomBehind 7 = .ok (.iaload, 1) := by decide +kernel
theorem d_T_hasRoomBehind_8 : decode b_T_hasRoomBehind 8 = .ok (.iload_n 2, 1) := by decide +kernel
theorem d_T_hasRoomBehind_9 : decode b_T_hasRoomBehind 9 = .ok (.iadd, 1) := by decide +kernel
theorem d_T_hasRoomBehind_10 : decode b_T_hasRoomBehind 10 = .ok (.sipush 600, 3) := by decide +kernel
theorem d_T_hasRoomBehind_13 : decode b_T_hasRoomBehind 13 = .ok (.if_icmp .gt 7, 3) := by decide +kernel
theorem d_T_hasRoomBehind_16 : decode b_T_hasRoomBehind 16 = .ok (.iconst 1, 1) := by decide +kernel
theorem d_T_hasRoomBehind_17 : decode b_T_hasRoomBehind 17 = .ok (.goto 4, 3) := by decide +kernel
theorem d_T_hasRoomBehind_20 : decode b_T_hasRoomBehind 20 = .ok (.iconst 0, 1) := by decide +kernel
theorem d_T_hasRoomBehind_21 : decode b_T_hasRoomBehind 21 = .ok (.ireturn, 1) := by decide +kernel
theorem d_T_cutBehind_0 : decode b_T_cutBehind 0 = .ok (.aload_n 0, 1) := by decide +kernel
theorem d_T_cutBehind_1 : decode b_T_cutBehind 1 = .ok (.iload_n 1, 1) := by decide +kernel
theorem d_T_cutBehind_2 : decode b_T_cutBehind 2 = .ok (.putfield 31, 3) := by decide +kernel
theorem d_T_cutBehind_5 : decode b_T_cutBehind 5 = .ok (.return_, 1) := by decide +kernel
theorem d_T_append_0 : decode b_T_append 0 = .ok (.aload_n 0, 1) := by decide +kernel
theorem d_T_append_1 : decode b_T_append 1 = .ok (.dup, 1) := by decide +kernel
theorem d_T_append_2 : decode b_T_append 2 = .ok (.getfield 31, 3) := by decide +kernel
theorem d_T_append_5 : decode b_T_append 5 = .ok (.iconst 1, 1) := by decide +kernel
theorem d_T_append_6 : decode b_T_append 6 = .ok (.iadd, 1) := by decide +kernel
theorem d_T_append_7 : decode b_T_append 7 = .ok (.putfield 31, 3) := by decide +kernel
theorem d_T_append_10 : decode b_T_append 10 = .ok (.aload_n 0, 1) := by decide +kernel
theorem d_T_append_11 : decode b_T_append 11 = .ok (.getfield 15, 3) := by decide +kernel
theorem d_T_append_14 : decode b_T_append 14 = .ok (.aload_n 0, 1) := by decide +kernel
theorem d_T_append_15 : decode b_T_append 15 = .ok (.getfield 31, 3) := by decide +kernel
theorem d_T_append_18 : decode b_T_append 18 = .ok (.iload_n 1, 1) := by decide +kernel
theorem d_T_append_19 : decode b_T_append 19 = .ok (.iastore, 1) := by decide +kernel
theorem d_T_append_20 : decode b_T_append 20 = .ok (.aload_n 0, 1) := by decide +kernel
theorem d_T_append_21 : decode b_T_append 21 = .ok (.getfield 9, 3) := by decide +kernel
theorem d_T_append_24 : decode b_T_append 24 = .ok (.aload_n 0, 1) := by decide +kernel
theorem d_T_append_25 : decode b_T_append 25 = .ok (.getfield 31, 3) := by decide +kernel
theorem d_T_append_28 : decode b_T_append 28 = .ok (.iconst 1, 1) := by decide +kernel
theorem d_T_append_29 : decode b_T_append 29 = .ok (.iadd, 1) := by decide +kernel
theorem d_T_append_30 : decode b_T_append 30 = .ok (.aload_n 0, 1) := by decide +kernel
theorem d_T_append_31 : decode b_T_append 31 = .ok (.getfield 9, 3) := by decide +kernel
theorem d_T_append_34 : decode b_T_append 34 = .ok (.aload_n 0, 1) := by decide +kernel
theorem d_T_append_35 : decode b_T_append 35 = .ok (.getfield 31, 3) := by decide +kernel
theorem d_T_append_38 : decode b_T_append 38 = .ok (.iaload, 1) := by decide +kernel
theorem d_T_append_39 : decode b_T_append 39 = .ok (.bipush 20, 2) := by decide +kernel
theorem d_T_append_41 : decode b_T_append 41 = .ok (.iadd, 1) := by decide +kernel
theorem d_T_append_42 : decode b_T_append 42 = .ok (.iload_n 1, 1) := by decide +kernel
theorem d_T_append_43 : decode b_T_append 43 = .ok (.iadd, 1) := by decide +kernel
theorem d_T_append_44 : decode b_T_append 44 = .ok (.iload_n 2, 1) := by decide +kernel
theorem d_T_append_45 : decode b_T_append 45 = .ok (.iadd, 1) := by decide +kernel
theorem d_T_append_46 : decode b_T_append 46 = .ok (.iastore, 1) := by decide +kernel
theorem d_T_append_47 : decode b_T_append 47 = .ok (.aload_n 0, 1) := by decide +kernel
theorem d_T_append_48 : decode b_T_append 48 = .ok (.getfield 31, 3) := by decide +kernel
theorem d_T_append_51 : decode b_T_append 51 = .ok (.ireturn, 1) := by decide +kernel
theorem d_T_readPart_0 : decode b_T_readPart 0 = .ok (.aload_n 0, 1) := by decide +kernel
theorem d_T_readPart_1 : decode b_T_readPart 1 = .ok (.iload_n 1, 1) := by decide +kernel
theorem d_T_readPart_2 : decode b_T_readPart 2 = .ok (.iload_n 2, 1) := by decide +kernel
theorem d_T_readPart_3 : decode b_T_readPart 3 = .ok (.iconst 1, 1) := by decide +kernel
theorem d_T_readPart_4 : decode b_T_readPart 4 = .ok (.isub, 1) := by decide +kernel
theorem d_T_readPart_5 : decode b_T_readPart 5 = .ok (.invokevirtual 39, 3) := by decide +kernel
theorem d_T_readPart_8 : decode b_T_readPart 8 = .ok (.istore 6, 2) := by decide +kernel
theorem d_T_readPart_10 : decode b_T_readPart 10 = .ok (.iconst 0, 1) := by decide +kernel
theorem d_T_readPart_11 : decode b_T_readPart 11 = .ok (.istore 7, 2) := by decide +kernel
theorem d_T_readPart_13 : decode b_T_readPart 13 = .ok (.iload 7, 2) := by decide +kernel
theorem d_T_readPart_15 : decode b_T_readPart 15 = .ok (.iload 5, 2) := by decide +kernel
theorem d_T_readPart_17 : decode b_T_readPart 17 = .ok (.if_icmp .ge 30, 3) := by decide +kernel
theorem d_T_readPart_20 : decode b_T_readPart 20 = .ok (.aload_n 3, 1) := by decide +kernel
theorem d_T_readPart_21 : decode b_T_readPart 21 = .ok (.iload 4, 2) := by decide +kernel
theorem d_T_readPart_23 : decode b_T_readPart 23 = .ok (.iload 7, 2) := by decide +kernel
theorem d_T_readPart_25 : decode b_T_readPart 25 = .ok (.iadd, 1) := by decide +kernel
theorem d_T_readPart_26 : decode b_T_readPart 26 = .ok (.aload_n 0, 1) := by decide +kernel
theorem d_T_readPart_27 : decode b_T_readPart 27 = .ok (.getfield 27, 3) := by decide +kernel
theorem d_T_readPart_30 : decode b_T_readPart 30 = .ok (.iload 6, 2) := by decide +kernel
theorem d_T_readPart_32 : decode b_T_readPart 32 = .ok (.iload 7, 2) := by decide +kernel
theorem d_T_readPart_34 : decode b_T_readPart 34 = .ok (.iadd, 1) := by decide +kernel
theorem d_T_readPart_35 : decode b_T_readPart 35 = .ok (.invokevirtual 43, 3) := by decide +kernel
theorem d_T_readPart_38 : decode b_T_readPart 38 = .ok (.invokevirtual 47, 3) := by decide +kernel
theorem d_T_readPart_41 : decode b_T_readPart 41 = .ok (.iinc 7 1, 3) := by decide +kernel
theorem d_T_readPart_44 : decode b_T_readPart 44 = .ok (.goto (-31), 3) := by decide +kernel
theorem d_T_readPart_47 : decode b_T_readPart 47 = .ok (.return_, 1) := by decide +kernel
theorem d_T_writeData_0 : decode b_T_writeData 0 = .ok (.aload_n 0, 1) := by decide +kernel
theorem d_T_writeData_1 : decode b_T_writeData 1 = .ok (.iload_n 1, 1) := by decide +kernel
theorem d_T_writeData_2 : decode b_T_writeData 2 = .ok (.iconst 3, 1) := by decide +kernel
theorem d_T_writeData_3 : decode b_T_writeData 3 = .ok (.aload_n 2, 1) := by decide +kernel
theorem d_T_writeData_4 : decode b_T_writeData 4 = .ok (.iload_n 3, 1) := by decide +kernel
theorem d_T_writeData_5 : decode b_T_writeData 5 = .ok (.invokevirtual 51, 3) := by decide +kernel
theorem d_T_writeData_8 : decode b_T_writeData 8 = .ok (.aload_n 0, 1) := by decide +kernel
theorem d_T_writeData_9 : decode b_T_writeData 9 = .ok (.getfield 18, 3) := by decide +kernel
theorem d_T_writeData_12 : decode b_T_writeData 12 = .ok (.iload_n 1, 1) := by decide +kernel
theorem d_T_writeData_13 : decode b_T_writeData 13 = .ok (.iconst 0, 1) := by decide +kernel
theorem d_T_writeData_14 : decode b_T_writeData 14 = .ok (.bastore, 1) := by decide +kernel
theorem d_T_writeData_15 : decode b_T_writeData 15 = .ok (.return_, 1) := by decide +kernel
theorem d_T_writePart_0 : decode b_T_writePart 0 = .ok (.aload_n 0, 1) := by decide +kernel
theorem d_T_writePart_1 : decode b_T_writePart 1 = .ok (.iload_n 1, 1) := by decide +kernel
theorem d_T_writePart_2 : decode b_T_writePart 2 = .ok (.iload_n 2, 1) := by decide +kernel
theorem d_T_writePart_3 : decode b_T_writePart 3 = .ok (.iconst 1, 1) := by decide +kernel
theorem d_T_writePart_4 : decode b_T_writePart 4 = .ok (.isub, 1) := by decide +kernel
theorem d_T_writePart_5 : decode b_T_writePart 5 = .ok (.invokevirtual 39, 3) := by decide +kernel
theorem d_T_writePart_8 : decode b_T_writePart 8 = .ok (.istore 5, 2) := by decide +kernel
theorem d_T_writePart_10 : decode b_T_writePart 10 = .ok (.aload_n 0, 1) := by decide +kernel
theorem d_T_writePart_11 : decode b_T_writePart 11 = .ok (.iload_n 1, 1) := by decide +kernel
theorem d_T_writePart_12 : decode b_T_writePart 12 = .ok (.iload_n 2, 1) := by decide +kernel
theorem d_T_writePart_13 : decode b_T_writePart 13 = .ok (.invokevirtual 39, 3) := by decide +kernel
theorem d_T_writePart_16 : decode b_T_writePart 16 = .ok (.iload 5, 2) := by decide +kernel
theorem d_T_writePart_18 : decode b_T_writePart 18 = .ok (.isub, 1) := by decide +kernel
theorem d_T_writePart_19 : decode b_T_writePart 19 = .ok (.istore 6, 2) := by decide +kernel
theorem d_T_writePart_21 : decode b_T_writePart 21 = .ok (.iconst 0, 1) := by decide +kernel
theorem d_T_writePart_22 : decode b_T_writePart 22 = .ok (.istore 7, 2) := by decide +kernel
theorem d_T_writePart_24 : decode b_T_writePart 24 = .ok (.iload 7, 2) := by decide +kernel
theorem d_T_writePart_26 : decode b_T_writePart 26 = .ok (.iload 6, 2) := by decide +kernel
theorem d_T_writePart_28 : decode b_T_writePart 28 = .ok (.if_icmp .ge 30, 3) := by decide +kernel
theorem d_T_writePart_31 : decode b_T_writePart 31 = .ok (.aload_n 0, 1) := by decide +kernel
theorem d_T_writePart_32 : decode b_T_writePart 32 = .ok (.getfield 27, 3) := by decide +kernel
theorem d_T_writePart_35 : decode b_T_writePart 35 = .ok (.iload 5, 2) := by decide +kernel
theorem d_T_writePart_37 : decode b_T_writePart 37 = .ok (.iload 7, 2) := by decide +kernel
theorem d_T_writePart_39 : decode b_T_writePart 39 = .ok (.iadd, 1) := by decide +kernel
theorem d_T_writePart_40 : decode b_T_writePart 40 = .ok (.aload_n 3, 1) := by decide +kernel
theorem d_T_writePart_41 : decode b_T_writePart 41 = .ok (.iload 4, 2) := by decide +kernel
theorem d_T_writePart_43 : decode b_T_writePart 43 = .ok (.iload 7, 2) := by decide +kernel
theorem d_T_writePart_45 : decode b_T_writePart 45 = .ok (.iadd, 1) := by decide +kernel
theorem d_T_writePart_46 : decode b_T_writePart 46 = .ok (.invokevirtual 43, 3) := by decide +kernel
theorem d_T_writePart_49 : decode b_T_writePart 49 = .ok (.invokevirtual 47, 3) := by decide +kernel
theorem d_T_writePart_52 : decode b_T_writePart 52 = .ok (.iinc 7 1, 3) := by decide +kernel
theorem d_T_writePart_55 : decode b_T_writePart 55 = .ok (.goto (-31), 3) := by decide +kernel
theorem d_T_writePart_58 : decode b_T_writePart 58 = .ok (.return_, 1) := by decide +kernel
theorem d_T_writeKey_0 : decode b_T_writeKey 0 = .ok (.aload_n 0, 1) := by decide +kernel
theorem d_T_writeKey_1 : decode b_T_writeKey 1 = .ok (.iload_n 1, 1) := by decide +kernel
theorem d_T_writeKey_2 : decode b_T_writeKey 2 = .ok (.iconst 1, 1) := by decide +kernel
theorem d_T_writeKey_3 : decode b_T_writeKey 3 = .ok (.invokevirtual 39, 3) := by decide +kernel
theorem d_T_writeKey_6 : decode b_T_writeKey 6 = .ok (.istore_n 3, 1) := by decide +kernel
theorem d_T_writeKey_7 : decode b_T_writeKey 7 = .ok (.iconst 0, 1) := by decide +kernel
theorem d_T_writeKey_8 : decode b_T_writeKey 8 = .ok (.istore 4, 2) := by decide +kernel
theorem d_T_writeKey_10 : decode b_T_writeKey 10 = .ok (.iload 4, 2) := by decide +kernel
theorem d_T_writeKey_12 : decode b_T_writeKey 12 = .ok (.iconst 4, 1) := by decide +kernel
theorem d_T_writeKey_13 : decode b_T_writeKey 13 = .ok (.if_icmp .ge 26, 3) := by decide +kernel
theorem d_T_writeKey_16 : decode b_T_writeKey 16 = .ok (.aload_n 0, 1) := by decide +kernel
theorem d_T_writeKey_17 : decode b_T_writeKey 17 = .ok (.getfield 27, 3) := by decide +kernel
theorem d_T_writeKey_20 : decode b_T_writeKey 20 = .ok (.iload_n 3, 1) := by decide +kernel
theorem d_T_writeKey_21 : decode b_T_writeKey 21 = .ok (.iload 4, 2) := by decide +kernel
theorem d_T_writeKey_23 : decode b_T_writeKey 23 = .ok (.iadd, 1) := by decide +kernel
theorem d_T_writeKey_24 : decode b_T_writeKey 24 = .ok (.iload_n 2, 1) := by decide +kernel
theorem d_T_writeKey_25 : decode b_T_writeKey 25 = .ok (.iload 4, 2) := by decide +kernel
theorem d_T_writeKey_27 : decode b_T_writeKey 27 = .ok (.invokestatic 55, 3) := by decide +kernel
theorem d_T_writeKey_30 : decode b_T_writeKey 30 = .ok (.invokevirtual 47, 3) := by decide +kernel
theorem d_T_writeKey_33 : decode b_T_writeKey 33 = .ok (.iinc 4 1, 3) := by decide +kernel
theorem d_T_writeKey_36 : decode b_T_writeKey 36 = .ok (.goto (-26), 3) := by decide +kernel
theorem d_T_writeKey_39 : decode b_T_writeKey 39 = .ok (.return_, 1) := by decide +kernel
theorem d_T_compareKey_0 : decode b_T_compareKey 0 = .ok (.aload_n 0, 1) := by decide +kernel
theorem d_T_compareKey_1 : decode b_T_compareKey 1 = .ok (.getfield 15, 3) := by decide +kernel
theorem d_T_compareKey_4 : decode b_T_compareKey 4 = .ok (.iload_n 1, 1) := by decide +kernel
theorem d_T_compareKey_5 : decode b_T_compareKey 5 = .ok (.iaload, 1) := by decide +kernel
theorem d_T_compareKey_6 : decode b_T_compareKey 6 = .ok (.iload 4, 2) := by decide +kernel
theorem d_T_compareKey_8 : decode b_T_compareKey 8 = .ok (.invokestatic 58, 3) := by decide +kernel
theorem d_T_compareKey_11 : decode b_T_compareKey 11 = .ok (.istore 5, 2) := by decide +kernel
theorem d_T_compareKey_13 : decode b_T_compareKey 13 = .ok (.iconst 0, 1) := by decide +kernel
theorem d_T_compareKey_14 : decode b_T_compareKey 14 = .ok (.istore 6, 2) := by decide +kernel
theorem d_T_compareKey_16 : decode b_T_compareKey 16 = .ok (.iload 6, 2) := by decide +kernel
theorem d_T_compareKey_18 : decode b_T_compareKey 18 = .ok (.iload 5, 2) := by decide +kernel
theorem d_T_compareKey_20 : decode b_T_compareKey 20 = .ok (.if_icmp .ge 35, 3) := by decide +kernel
theorem d_T_compareKey_23 : decode b_T_compareKey 23 = .ok (.aload_n 0, 1) := by decide +kernel
theorem d_T_compareKey_24 : decode b_T_compareKey 24 = .ok (.iload_n 1, 1) := by decide +kernel
theorem d_T_compareKey_25 : decode b_T_compareKey 25 = .ok (.iload 6, 2) := by decide +kernel
theorem d_T_compareKey_27 : decode b_T_compareKey 27 = .ok (.invokevirtual 63, 3) := by decide +kernel
theorem d_T_compareKey_30 : decode b_T_compareKey 30 = .ok (.aload_n 2, 1) := by decide +kernel
theorem d_T_compareKey_31 : decode b_T_compareKey 31 = .ok (.iload_n 3, 1) := by decide +kernel
theorem d_T_compareKey_32 : decode b_T_compareKey 32 = .ok (.iload 6, 2) := by decide +kernel
theorem d_T_compareKey_34 : decode b_T_compareKey 34 = .ok (.iadd, 1) := by decide +kernel
theorem d_T_compareKey_35 : decode b_T_compareKey 35 = .ok (.invokevirtual 43, 3) := by decide +kernel
theorem d_T_compareKey_38 : decode b_T_compareKey 38 = .ok (.isub, 1) := by decide +kernel
theorem d_T_compareKey_39 : decode b_T_compareKey 39 = .ok (.istore 7, 2) := by decide +kernel
theorem d_T_compareKey_41 : decode b_T_compareKey 41 = .ok (.iload 7, 2) := by decide +kernel
theorem d_T_compareKey_43 : decode b_T_compareKey 43 = .ok (.ifCond .eq 6, 3) := by decide +kernel
theorem d_T_compareKey_46 : decode b_T_compareKey 46 = .ok (.iload 7, 2) := by decide +kernel
theorem d_T_compareKey_48 : decode b_T_compareKey 48 = .ok (.ireturn, 1) := by decide +kernel
theorem d_T_compareKey_49 : decode b_T_compareKey 49 = .ok (.iinc 6 1, 3) := by decide +kernel
theorem d_T_compareKey_52 : decode b_T_compareKey 52 = .ok (.goto (-36), 3) := by decide +kernel
theorem d_T_compareKey_55 : decode b_T_compareKey 55 = .ok (.aload_n 0, 1) := by decide +kernel
theorem d_T_compareKey_56 : decode b_T_compareKey 56 = .ok (.getfield 15, 3) := by decide +kernel
theorem d_T_compareKey_59 : decode b_T_compareKey 59 = .ok (.iload_n 1, 1) := by decide +kernel
theorem d_T_compareKey_60 : decode b_T_compareKey 60 = .ok (.iaload, 1) := by decide +kernel
theorem d_T_compareKey_61 : decode b_T_compareKey 61 = .ok (.iload 4, 2) := by decide +kernel
theorem d_T_compareKey_63 : decode b_T_compareKey 63 = .ok (.isub, 1) := by decide +kernel
theorem d_T_compareKey_64 : decode b_T_compareKey 64 = .ok (.ireturn, 1) := by decide +kernel
theorem d_T_numberOf_0 : decode b_T_numberOf 0 = .ok (.iconst 1, 1) := by decide +kernel
theorem d_T_numberOf_1 : decode b_T_numberOf 1 = .ok (.istore_n 2, 1) := by decide +kernel
theorem d_T_numberOf_2 : decode b_T_numberOf 2 = .ok (.iload_n 2, 1) := by decide +kernel
theorem d_T_numberOf_3 : decode b_T_numberOf 3 = .ok (.aload_n 0, 1) := by decide +kernel
theorem d_T_numberOf_4 : decode b_T_numberOf 4 = .ok (.getfield 31, 3) := by decide +kernel
theorem d_T_numberOf_7 : decode b_T_numberOf 7 = .ok (.if_icmp .gt 30, 3) := by decide +kernel
theorem d_T_numberOf_10 : decode b_T_numberOf 10 = .ok (.aload_n 0, 1) := by decide +kernel
theorem d_T_numberOf_11 : decode b_T_numberOf 11 = .ok (.getfield 15, 3) := by decide +kernel
theorem d_T_numberOf_14 : decode b_T_numberOf 14 = .ok (.iload_n 2, 1) := by decide +kernel
theorem d_T_numberOf_15 : decode b_T_numberOf 15 = .ok (.iaload, 1) := by decide +kernel
theorem d_T_numberOf_16 : decode b_T_numberOf 16 = .ok (.iconst 4, 1) := by decide +kernel
theorem d_T_numberOf_17 : decode b_T_numberOf 17 = .ok (.if_icmp .ne 14, 3) := by decide +kernel
theorem d_T_numberOf_20 : decode b_T_numberOf 20 = .ok (.aload_n 0, 1) := by decide +kernel
theorem d_T_numberOf_21 : decode b_T_numberOf 21 = .ok (.iload_n 2, 1) := by decide +kernel
theorem d_T_numberOf_22 : decode b_T_numberOf 22 = .ok (.iload_n 1, 1) := by decide +kernel
theorem d_T_numberOf_23 : decode b_T_numberOf 23 = .ok (.invokevirtual 66, 3) := by decide +kernel
theorem d_T_numberOf_26 : decode b_T_numberOf 26 = .ok (.ifCond .eq 5, 3) := by decide +kernel
theorem d_T_numberOf_29 : decode b_T_numberOf 29 = .ok (.iload_n 2, 1) := by decide +kernel
theorem d_T_numberOf_30 : decode b_T_numberOf 30 = .ok (.ireturn, 1) := by decide +kernel
theorem d_T_numberOf_31 : decode b_T_numberOf 31 = .ok (.iinc 2 1, 3) := by decide +kernel
theorem d_T_numberOf_34 : decode b_T_numberOf 34 = .ok (.goto (-32), 3) := by decide +kernel
theorem d_T_numberOf_37 : decode b_T_numberOf 37 = .ok (.iconst 0, 1) := by decide +kernel
theorem d_T_numberOf_38 : decode b_T_numberOf 38 = .ok (.ireturn, 1) := by decide +kernel
theorem d_T_hasKeyed_0 : decode b_T_hasKeyed 0 = .ok (.iconst 0, 1) := by decide +kernel
theorem d_T_hasKeyed_1 : decode b_T_hasKeyed 1 = .ok (.istore_n 3, 1) := by decide +kernel
theorem d_T_hasKeyed_2 : decode b_T_hasKeyed 2 = .ok (.iload_n 3, 1) := by decide +kernel
theorem d_T_hasKeyed_3 : decode b_T_hasKeyed 3 = .ok (.iconst 4, 1) := by decide +kernel
theorem d_T_hasKeyed_4 : decode b_T_hasKeyed 4 = .ok (.if_icmp .ge 25, 3) := by decide +kernel
theorem d_T_hasKeyed_7 : decode b_T_hasKeyed 7 = .ok (.aload_n 0, 1) := by decide +kernel
theorem d_T_hasKeyed_8 : decode b_T_hasKeyed 8 = .ok (.iload_n 1, 1) := by decide +kernel
theorem d_T_hasKeyed_9 : decode b_T_hasKeyed 9 = .ok (.iload_n 3, 1) := by decide +kernel
theorem d_T_hasKeyed_10 : decode b_T_hasKeyed 10 = .ok (.invokevirtual 63, 3) := by decide +kernel
theorem d_T_hasKeyed_13 : decode b_T_hasKeyed 13 = .ok (.iload_n 2, 1) := by decide +kernel
theorem d_T_hasKeyed_14 : decode b_T_hasKeyed 14 = .ok (.iload_n 3, 1) := by decide +kernel
theorem d_T_hasKeyed_15 : decode b_T_hasKeyed 15 = .ok (.invokestatic 55, 3) := by decide +kernel
theorem d_T_hasKeyed_18 : decode b_T_hasKeyed 18 = .ok (.if_icmp .eq 5, 3) := by decide +kernel
theorem d_T_hasKeyed_21 : decode b_T_hasKeyed 21 = .ok (.iconst 0, 1) := by decide +kernel
theorem d_T_hasKeyed_22 : decode b_T_hasKeyed 22 = .ok (.ireturn, 1) := by decide +kernel
theorem d_T_hasKeyed_23 : decode b_T_hasKeyed 23 = .ok (.iinc 3 1, 3) := by decide +kernel
theorem d_T_hasKeyed_26 : decode b_T_hasKeyed 26 = .ok (.goto (-24), 3) := by decide +kernel
theorem d_T_hasKeyed_29 : decode b_T_hasKeyed 29 = .ok (.iconst 1, 1) := by decide +kernel
theorem d_T_hasKeyed_30 : decode b_T_hasKeyed 30 = .ok (.ireturn, 1) := by decide +kernel
theorem d_T_keyedByte_0 : decode b_T_keyedByte 0 = .ok (.iload_n 0, 1) := by decide +kernel
theorem d_T_keyedByte_1 : decode b_T_keyedByte 1 = .ok (.iconst 3, 1) := by decide +kernel
theorem d_T_keyedByte_2 : decode b_T_keyedByte 2 = .ok (.iload_n 1, 1) := by decide +kernel
theorem d_T_keyedByte_3 : decode b_T_keyedByte 3 = .ok (.isub, 1) := by decide +kernel
theorem d_T_keyedByte_4 : decode b_T_keyedByte 4 = .ok (.bipush 8, 2) := by decide +kernel
theorem d_T_keyedByte_6 : decode b_T_keyedByte 6 = .ok (.imul, 1) := by decide +kernel
theorem d_T_keyedByte_7 : decode b_T_keyedByte 7 = .ok (.iushr, 1) := by decide +kernel
theorem d_T_keyedByte_8 : decode b_T_keyedByte 8 = .ok (.sipush 255, 3) := by decide +kernel
theorem d_T_keyedByte_11 : decode b_T_keyedByte 11 = .ok (.iand, 1) := by decide +kernel
theorem d_T_keyedByte_12 : decode b_T_keyedByte 12 = .ok (.ireturn, 1) := by decide +kernel
theorem d_H_init_0 : decode b_H_init 0 = .ok (.aload_n 0, 1) := by decide +kernel
theorem d_H_init_1 : decode b_H_init 1 = .ok (.invokespecial 3, 3) := by decide +kernel
theorem d_H_init_4 : decode b_H_init 4 = .ok (.aload_n 0, 1) := by decide +kernel
theorem d_H_init_5 : decode b_H_init 5 = .ok (.aload_n 1, 1) := by decide +kernel
theorem d_H_init_6 : decode b_H_init 6 = .ok (.putfield 9, 3) := by decide +kernel
theorem d_H_init_9 : decode b_H_init 9 = .ok (.return_, 1) := by decide +kernel
theorem d_H_track_0 : decode b_H_track 0 = .ok (.aload_n 0, 1) := by decide +kernel
theorem d_H_track_1 : decode b_H_track 1 = .ok (.getfield 9, 3) := by decide +kernel
theorem d_H_track_4 : decode b_H_track 4 = .ok (.aload_n 0, 1) := by decide +kernel
theorem d_H_track_5 : decode b_H_track 5 = .ok (.getfield 15, 3) := by decide +kernel
theorem d_H_track_8 : decode b_H_track 8 = .ok (.aaload, 1) := by decide +kernel
theorem d_H_track_9 : decode b_H_track 9 = .ok (.areturn, 1) := by decide +kernel
theorem d_H_turns_0 : decode b_H_turns 0 = .ok (.aload_n 0, 1) := by decide +kernel
theorem d_H_turns_1 : decode b_H_turns 1 = .ok (.getfield 19, 3) := by decide +kernel
theorem d_H_turns_4 : decode b_H_turns 4 = .ok (.ldc2_w 23, 3) := by decide +kernel
theorem d_H_turns_7 : decode b_H_turns 7 = .ok (.ldiv, 1) := by decide +kernel
theorem d_H_turns_8 : decode b_H_turns 8 = .ok (.lreturn, 1) := by decide +kernel
theorem d_H_goOn_0 : decode b_H_goOn 0 = .ok (.aload_n 0, 1) := by decide +kernel
theorem d_H_goOn_1 : decode b_H_goOn 1 = .ok (.dup, 1) := by decide +kernel
theorem d_H_goOn_2 : decode b_H_goOn 2 = .ok (.getfield 19, 3) := by decide +kernel
theorem d_H_goOn_5 : decode b_H_goOn 5 = .ok (.iload_n 1, 1) := by decide +kernel
theorem d_H_goOn_6 : decode b_H_goOn 6 = .ok (.i2l, 1) := by decide +kernel
theorem d_H_goOn_7 : decode b_H_goOn 7 = .ok (.ladd, 1) := by decide +kernel
theorem d_H_goOn_8 : decode b_H_goOn 8 = .ok (.putfield 19, 3) := by decide +kernel
theorem d_H_goOn_11 : decode b_H_goOn 11 = .ok (.return_, 1) := by decide +kernel
theorem d_H_disorient_0 : decode b_H_disorient 0 = .ok (.aload_n 0, 1) := by decide +kernel
theorem d_H_disorient_1 : decode b_H_disorient 1 = .ok (.iconst 0, 1) := by decide +kernel
theorem d_H_disorient_2 : decode b_H_disorient 2 = .ok (.putfield 25, 3) := by decide +kernel
theorem d_H_disorient_5 : decode b_H_disorient 5 = .ok (.return_, 1) := by decide +kernel
theorem d_H_moveTo_0 : decode b_H_moveTo 0 = .ok (.aload_n 0, 1) := by decide +kernel
theorem d_H_moveTo_1 : decode b_H_moveTo 1 = .ok (.bipush 10, 2) := by decide +kernel
theorem d_H_moveTo_3 : decode b_H_moveTo 3 = .ok (.iconst 3, 1) := by decide +kernel
theorem d_H_moveTo_4 : decode b_H_moveTo 4 = .ok (.iload_n 1, 1) := by decide +kernel
theorem d_H_moveTo_5 : decode b_H_moveTo 5 = .ok (.aload_n 0, 1) := by decide +kernel
theorem d_H_moveTo_6 : decode b_H_moveTo 6 = .ok (.getfield 15, 3) := by decide +kernel
theorem d_H_moveTo_9 : decode b_H_moveTo 9 = .ok (.isub, 1) := by decide +kernel
theorem d_H_moveTo_10 : decode b_H_moveTo 10 = .ok (.invokestatic 28, 3) := by decide +kernel
theorem d_H_moveTo_13 : decode b_H_moveTo 13 = .ok (.imul, 1) := by decide +kernel
theorem d_H_moveTo_14 : decode b_H_moveTo 14 = .ok (.iadd, 1) := by decide +kernel
theorem d_H_moveTo_15 : decode b_H_moveTo 15 = .ok (.invokevirtual 34, 3) := by decide +kernel
theorem d_H_moveTo_18 : decode b_H_moveTo 18 = .ok (.aload_n 0, 1) := by decide +kernel
theorem d_H_moveTo_19 : decode b_H_moveTo 19 = .ok (.iload_n 1, 1) := by decide +kernel
theorem d_H_moveTo_20 : decode b_H_moveTo 20 = .ok (.putfield 15, 3) := by decide +kernel
theorem d_H_moveTo_23 : decode b_H_moveTo 23 = .ok (.aload_n 0, 1) := by decide +kernel
theorem d_H_moveTo_24 : decode b_H_moveTo 24 = .ok (.invokevirtual 38, 3) := by decide +kernel
theorem d_H_moveTo_27 : decode b_H_moveTo 27 = .ok (.return_, 1) := by decide +kernel
theorem d_H_moveOnBehind_0 : decode b_H_moveOnBehind 0 = .ok (.aload_n 0, 1) := by decide +kernel
theorem d_H_moveOnBehind_1 : decode b_H_moveOnBehind 1 = .ok (.invokevirtual 41, 3) := by decide +kernel
theorem d_H_moveOnBehind_4 : decode b_H_moveOnBehind 4 = .ok (.ifCond .ne 5, 3) := by decide +kernel
theorem d_H_moveOnBehind_7 : decode b_H_moveOnBehind 7 = .ok (.iconst 0, 1) := by decide +kernel
theorem d_H_moveOnBehind_8 : decode b_H_moveOnBehind 8 = .ok (.ireturn, 1) := by decide +kernel
theorem d_H_moveOnBehind_9 : decode b_H_moveOnBehind 9 = .ok (.aload_n 0, 1) := by decide +kernel
theorem d_H_moveOnBehind_10 : decode b_H_moveOnBehind 10 = .ok (.iload_n 1, 1) := by decide +kernel
theorem d_H_moveOnBehind_11 : decode b_H_moveOnBehind 11 = .ok (.invokevirtual 45, 3) := by decide +kernel
theorem d_H_moveOnBehind_14 : decode b_H_moveOnBehind 14 = .ok (.iconst 1, 1) := by decide +kernel
theorem d_H_moveOnBehind_15 : decode b_H_moveOnBehind 15 = .ok (.ireturn, 1) := by decide +kernel
theorem d_H_comeBehind_0 : decode b_H_comeBehind 0 = .ok (.aload_n 0, 1) := by decide +kernel
theorem d_H_comeBehind_1 : decode b_H_comeBehind 1 = .ok (.getfield 25, 3) := by decide +kernel
theorem d_H_comeBehind_4 : decode b_H_comeBehind 4 = .ok (.ifCond .eq 15, 3) := by decide +kernel
theorem d_H_comeBehind_7 : decode b_H_comeBehind 7 = .ok (.aload_n 0, 1) := by decide +kernel
theorem d_H_comeBehind_8 : decode b_H_comeBehind 8 = .ok (.getfield 48, 3) := by decide +kernel
theorem d_H_comeBehind_11 : decode b_H_comeBehind 11 = .ok (.iload_n 1, 1) := by decide +kernel
theorem d_H_comeBehind_12 : decode b_H_comeBehind 12 = .ok (.if_icmp .ge 7, 3) := by decide +kernel
theorem d_H_comeBehind_15 : decode b_H_comeBehind 15 = .ok (.iconst 1, 1) := by decide +kernel
theorem d_H_comeBehind_16 : decode b_H_comeBehind 16 = .ok (.goto 4, 3) := by decide +kernel
theorem d_H_comeBehind_19 : decode b_H_comeBehind 19 = .ok (.iconst 0, 1) := by decide +kernel
theorem d_H_comeBehind_20 : decode b_H_comeBehind 20 = .ok (.istore_n 2, 1) := by decide +kernel
theorem d_H_comeBehind_21 : decode b_H_comeBehind 21 = .ok (.iload_n 2, 1) := by decide +kernel
theorem d_H_comeBehind_22 : decode b_H_comeBehind 22 = .ok (.ifCond .ne 12, 3) := by decide +kernel
theorem d_H_comeBehind_25 : decode b_H_comeBehind 25 = .ok (.aload_n 0, 1) := by decide +kernel
theorem d_H_comeBehind_26 : decode b_H_comeBehind 26 = .ok (.invokevirtual 41, 3) := by decide +kernel
theorem d_H_comeBehind_29 : decode b_H_comeBehind 29 = .ok (.ifCond .ne 5, 3) := by decide +kernel
theorem d_H_comeBehind_32 : decode b_H_comeBehind 32 = .ok (.iconst 0, 1) := by decide +kernel
theorem d_H_comeBehind_33 : decode b_H_comeBehind 33 = .ok (.ireturn, 1) := by decide +kernel
theorem d_H_comeBehind_34 : decode b_H_comeBehind 34 = .ok (.aload_n 0, 1) := by decide +kernel
theorem d_H_comeBehind_35 : decode b_H_comeBehind 35 = .ok (.iload_n 1, 1) := by decide +kernel
theorem d_H_comeBehind_36 : decode b_H_comeBehind 36 = .ok (.invokevirtual 45, 3) := by decide +kernel
theorem d_H_comeBehind_39 : decode b_H_comeBehind 39 = .ok (.iconst 1, 1) := by decide +kernel
theorem d_H_comeBehind_40 : decode b_H_comeBehind 40 = .ok (.ireturn, 1) := by decide +kernel
theorem d_H_goToEnd_0 : decode b_H_goToEnd 0 = .ok (.aload_n 0, 1) := by decide +kernel
theorem d_H_goToEnd_1 : decode b_H_goToEnd 1 = .ok (.aload_n 0, 1) := by decide +kernel
theorem d_H_goToEnd_2 : decode b_H_goToEnd 2 = .ok (.getfield 9, 3) := by decide +kernel
theorem d_H_goToEnd_5 : decode b_H_goToEnd 5 = .ok (.aload_n 0, 1) := by decide +kernel
theorem d_H_goToEnd_6 : decode b_H_goToEnd 6 = .ok (.getfield 15, 3) := by decide +kernel
theorem d_H_goToEnd_9 : decode b_H_goToEnd 9 = .ok (.aaload, 1) := by decide +kernel
theorem d_H_goToEnd_10 : decode b_H_goToEnd 10 = .ok (.aload_n 0, 1) := by decide +kernel
theorem d_H_goToEnd_11 : decode b_H_goToEnd 11 = .ok (.getfield 25, 3) := by decide +kernel
theorem d_H_goToEnd_14 : decode b_H_goToEnd 14 = .ok (.iconst 3, 1) := by decide +kernel
theorem d_H_goToEnd_15 : decode b_H_goToEnd 15 = .ok (.invokevirtual 51, 3) := by decide +kernel
theorem d_H_goToEnd_18 : decode b_H_goToEnd 18 = .ok (.invokevirtual 57, 3) := by decide +kernel
theorem d_H_goToEnd_21 : decode b_H_goToEnd 21 = .ok (.return_, 1) := by decide +kernel
theorem d_H_orientToNew_0 : decode b_H_orientToNew 0 = .ok (.aload_n 0, 1) := by decide +kernel
theorem d_H_orientToNew_1 : decode b_H_orientToNew 1 = .ok (.iload_n 1, 1) := by decide +kernel
theorem d_H_orientToNew_2 : decode b_H_orientToNew 2 = .ok (.putfield 25, 3) := by decide +kernel
theorem d_H_orientToNew_5 : decode b_H_orientToNew 5 = .ok (.aload_n 0, 1) := by decide +kernel
theorem d_H_orientToNew_6 : decode b_H_orientToNew 6 = .ok (.iconst 3, 1) := by decide +kernel
theorem d_H_orientToNew_7 : decode b_H_orientToNew 7 = .ok (.invokevirtual 45, 3) := by decide +kernel
theorem d_H_orientToNew_10 : decode b_H_orientToNew 10 = .ok (.return_, 1) := by decide +kernel
theorem d_H_moveOn_0 : decode b_H_moveOn 0 = .ok (.aload_n 0, 1) := by decide +kernel
theorem d_H_moveOn_1 : decode b_H_moveOn 1 = .ok (.getfield 9, 3) := by decide +kernel
theorem d_H_moveOn_4 : decode b_H_moveOn 4 = .ok (.aload_n 0, 1) := by decide +kernel
theorem d_H_moveOn_5 : decode b_H_moveOn 5 = .ok (.getfield 15, 3) := by decide +kernel
theorem d_H_moveOn_8 : decode b_H_moveOn 8 = .ok (.aaload, 1) := by decide +kernel
theorem d_H_moveOn_9 : decode b_H_moveOn 9 = .ok (.astore_n 1, 1) := by decide +kernel
theorem d_H_moveOn_10 : decode b_H_moveOn 10 = .ok (.aload_n 1, 1) := by decide +kernel
theorem d_H_moveOn_11 : decode b_H_moveOn 11 = .ok (.getfield 60, 3) := by decide +kernel
theorem d_H_moveOn_14 : decode b_H_moveOn 14 = .ok (.ifCond .ne 21, 3) := by decide +kernel
theorem d_H_moveOn_17 : decode b_H_moveOn 17 = .ok (.aload_n 0, 1) := by decide +kernel
theorem d_H_moveOn_18 : decode b_H_moveOn 18 = .ok (.aload_n 0, 1) := by decide +kernel
theorem d_H_moveOn_19 : decode b_H_moveOn 19 = .ok (.invokevirtual 63, 3) := by decide +kernel
theorem d_H_moveOn_22 : decode b_H_moveOn 22 = .ok (.ldc2_w 67, 3) := by decide +kernel
theorem d_H_moveOn_25 : decode b_H_moveOn 25 = .ok (.ladd, 1) := by decide +kernel
theorem d_H_moveOn_26 : decode b_H_moveOn 26 = .ok (.ldc2_w 23, 3) := by decide +kernel
theorem d_H_moveOn_29 : decode b_H_moveOn 29 = .ok (.lmul, 1) := by decide +kernel
theorem d_H_moveOn_30 : decode b_H_moveOn 30 = .ok (.putfield 19, 3) := by decide +kernel
theorem d_H_moveOn_33 : decode b_H_moveOn 33 = .ok (.iconst 0, 1) := by decide +kernel
theorem d_H_moveOn_34 : decode b_H_moveOn 34 = .ok (.ireturn, 1) := by decide +kernel
theorem d_H_moveOn_35 : decode b_H_moveOn 35 = .ok (.aload_n 0, 1) := by decide +kernel
theorem d_H_moveOn_36 : decode b_H_moveOn 36 = .ok (.getfield 19, 3) := by decide +kernel
theorem d_H_moveOn_39 : decode b_H_moveOn 39 = .ok (.ldc2_w 23, 3) := by decide +kernel
theorem d_H_moveOn_42 : decode b_H_moveOn 42 = .ok (.lrem, 1) := by decide +kernel
theorem d_H_moveOn_43 : decode b_H_moveOn 43 = .ok (.l2i, 1) := by decide +kernel
theorem d_H_moveOn_44 : decode b_H_moveOn 44 = .ok (.istore_n 2, 1) := by decide +kernel
theorem d_H_moveOn_45 : decode b_H_moveOn 45 = .ok (.aload_n 0, 1) := by decide +kernel
theorem d_H_moveOn_46 : decode b_H_moveOn 46 = .ok (.aload_n 0, 1) := by decide +kernel
theorem d_H_moveOn_47 : decode b_H_moveOn 47 = .ok (.getfield 25, 3) := by decide +kernel
theorem d_H_moveOn_50 : decode b_H_moveOn 50 = .ok (.ifCond .ne 11, 3) := by decide +kernel
theorem d_H_moveOn_53 : decode b_H_moveOn 53 = .ok (.aload_n 1, 1) := by decide +kernel
theorem d_H_moveOn_54 : decode b_H_moveOn 54 = .ok (.iload_n 2, 1) := by decide +kernel
theorem d_H_moveOn_55 : decode b_H_moveOn 55 = .ok (.invokevirtual 69, 3) := by decide +kernel
theorem d_H_moveOn_58 : decode b_H_moveOn 58 = .ok (.goto 11, 3) := by decide +kernel
theorem d_H_moveOn_61 : decode b_H_moveOn 61 = .ok (.aload_n 1, 1) := by decide +kernel
theorem d_H_moveOn_62 : decode b_H_moveOn 62 = .ok (.aload_n 0, 1) := by decide +kernel
theorem d_H_moveOn_63 : decode b_H_moveOn 63 = .ok (.getfield 25, 3) := by decide +kernel
theorem d_H_moveOn_66 : decode b_H_moveOn 66 = .ok (.invokevirtual 72, 3) := by decide +kernel
theorem d_H_moveOn_69 : decode b_H_moveOn 69 = .ok (.putfield 25, 3) := by decide +kernel
theorem d_H_moveOn_72 : decode b_H_moveOn 72 = .ok (.aload_n 0, 1) := by decide +kernel
theorem d_H_moveOn_73 : decode b_H_moveOn 73 = .ok (.aload_n 1, 1) := by decide +kernel
theorem d_H_moveOn_74 : decode b_H_moveOn 74 = .ok (.aload_n 0, 1) := by decide +kernel
theorem d_H_moveOn_75 : decode b_H_moveOn 75 = .ok (.getfield 25, 3) := by decide +kernel
theorem d_H_moveOn_78 : decode b_H_moveOn 78 = .ok (.invokevirtual 75, 3) := by decide +kernel
theorem d_H_moveOn_81 : decode b_H_moveOn 81 = .ok (.invokevirtual 57, 3) := by decide +kernel
theorem d_H_moveOn_84 : decode b_H_moveOn 84 = .ok (.iconst 1, 1) := by decide +kernel
theorem d_H_moveOn_85 : decode b_H_moveOn 85 = .ok (.ireturn, 1) := by decide +kernel
theorem d_H_goBehind_0 : decode b_H_goBehind 0 = .ok (.aload_n 0, 1) := by decide +kernel
theorem d_H_goBehind_1 : decode b_H_goBehind 1 = .ok (.iload_n 1, 1) := by decide +kernel
theorem d_H_goBehind_2 : decode b_H_goBehind 2 = .ok (.putfield 48, 3) := by decide +kernel
theorem d_H_goBehind_5 : decode b_H_goBehind 5 = .ok (.aload_n 0, 1) := by decide +kernel
theorem d_H_goBehind_6 : decode b_H_goBehind 6 = .ok (.aload_n 0, 1) := by decide +kernel
theorem d_H_goBehind_7 : decode b_H_goBehind 7 = .ok (.getfield 9, 3) := by decide +kernel
theorem d_H_goBehind_10 : decode b_H_goBehind 10 = .ok (.aload_n 0, 1) := by decide +kernel
theorem d_H_goBehind_11 : decode b_H_goBehind 11 = .ok (.getfield 15, 3) := by decide +kernel
theorem d_H_goBehind_14 : decode b_H_goBehind 14 = .ok (.aaload, 1) := by decide +kernel
theorem d_H_goBehind_15 : decode b_H_goBehind 15 = .ok (.aload_n 0, 1) := by decide +kernel
theorem d_H_goBehind_16 : decode b_H_goBehind 16 = .ok (.getfield 25, 3) := by decide +kernel
theorem d_H_goBehind_19 : decode b_H_goBehind 19 = .ok (.iload_n 1, 1) := by decide +kernel
theorem d_H_goBehind_20 : decode b_H_goBehind 20 = .ok (.invokevirtual 51, 3) := by decide +kernel
theorem d_H_goBehind_23 : decode b_H_goBehind 23 = .ok (.invokevirtual 57, 3) := by decide +kernel
theorem d_H_goBehind_26 : decode b_H_goBehind 26 = .ok (.return_, 1) := by decide +kernel
theorem d_H_goTo_0 : decode b_H_goTo 0 = .ok (.aload_n 0, 1) := by decide +kernel
theorem d_H_goTo_1 : decode b_H_goTo 1 = .ok (.getfield 19, 3) := by decide +kernel
theorem d_H_goTo_4 : decode b_H_goTo 4 = .ok (.ldc2_w 23, 3) := by decide +kernel
theorem d_H_goTo_7 : decode b_H_goTo 7 = .ok (.lrem, 1) := by decide +kernel
theorem d_H_goTo_8 : decode b_H_goTo 8 = .ok (.l2i, 1) := by decide +kernel
theorem d_H_goTo_9 : decode b_H_goTo 9 = .ok (.istore_n 2, 1) := by decide +kernel
theorem d_H_goTo_10 : decode b_H_goTo 10 = .ok (.aload_n 0, 1) := by decide +kernel
theorem d_H_goTo_11 : decode b_H_goTo 11 = .ok (.dup, 1) := by decide +kernel
theorem d_H_goTo_12 : decode b_H_goTo 12 = .ok (.getfield 19, 3) := by decide +kernel
theorem d_H_goTo_15 : decode b_H_goTo 15 = .ok (.iload_n 1, 1) := by decide +kernel
theorem d_H_goTo_16 : decode b_H_goTo 16 = .ok (.iload_n 2, 1) := by decide +kernel
theorem d_H_goTo_17 : decode b_H_goTo 17 = .ok (.isub, 1) := by decide +kernel
theorem d_H_goTo_18 : decode b_H_goTo 18 = .ok (.sipush 600, 3) := by decide +kernel
theorem d_H_goTo_21 : decode b_H_goTo 21 = .ok (.iadd, 1) := by decide +kernel
theorem d_H_goTo_22 : decode b_H_goTo 22 = .ok (.sipush 600, 3) := by decide +kernel
theorem d_H_goTo_25 : decode b_H_goTo 25 = .ok (.irem, 1) := by decide +kernel
theorem d_H_goTo_26 : decode b_H_goTo 26 = .ok (.i2l, 1) := by decide +kernel
theorem d_H_goTo_27 : decode b_H_goTo 27 = .ok (.ladd, 1) := by decide +kernel
theorem d_H_goTo_28 : decode b_H_goTo 28 = .ok (.putfield 19, 3) := by decide +kernel
theorem d_H_goTo_31 : decode b_H_goTo 31 = .ok (.return_, 1) := by decide +kernel
