theorem d_L_command_0 : decode b_L_command 0 = .ok (.aload 4, 2) := by decide +kernel
theorem d_L_command_2 : decode b_L_command 2 = .ok (.iconst 0, 1) := by decide +kernel
theorem d_L_command_3 : decode b_L_command 3 = .ok (.aload_n 0, 1) := by decide +kernel
theorem d_L_command_4 : decode b_L_command 4 = .ok (.iload_n 1, 1) := by decide +kernel
theorem d_L_command_5 : decode b_L_command 5 = .ok (.iload_n 2, 1) := by decide +kernel
theorem d_L_command_6 : decode b_L_command 6 = .ok (.iload_n 3, 1) := by decide +kernel
theorem d_L_command_7 : decode b_L_command 7 = .ok (.invokevirtual 7, 3) := by decide +kernel
theorem d_L_command_10 : decode b_L_command 10 = .ok (.i2l, 1) := by decide +kernel
theorem d_L_command_11 : decode b_L_command 11 = .ok (.lastore, 1) := by decide +kernel
theorem d_L_command_12 : decode b_L_command 12 = .ok (.goto 11, 3) := by decide +kernel
theorem d_L_command_15 : decode b_L_command 15 = .ok (.astore 5, 2) := by decide +kernel
theorem d_L_command_17 : decode b_L_command 17 = .ok (.iconst 1, 1) := by decide +kernel
theorem d_L_command_18 : decode b_L_command 18 = .ok (.ireturn, 1) := by decide +kernel
theorem d_L_command_19 : decode b_L_command 19 = .ok (.astore 5, 2) := by decide +kernel
theorem d_L_command_21 : decode b_L_command 21 = .ok (.iconst 2, 1) := by decide +kernel
theorem d_L_command_22 : decode b_L_command 22 = .ok (.ireturn, 1) := by decide +kernel
theorem d_L_command_23 : decode b_L_command 23 = .ok (.iconst 0, 1) := by decide +kernel
theorem d_L_command_24 : decode b_L_command 24 = .ok (.ireturn, 1) := by decide +kernel
theorem d_L_poke_0 : decode b_L_poke 0 = .ok (.aload_n 0, 1) := by decide +kernel
theorem d_L_poke_1 : decode b_L_poke 1 = .ok (.iload_n 1, 1) := by decide +kernel
theorem d_L_poke_2 : decode b_L_poke 2 = .ok (.iload_n 2, 1) := by decide +kernel
theorem d_L_poke_3 : decode b_L_poke 3 = .ok (.invokevirtual 17, 3) := by decide +kernel
theorem d_L_poke_6 : decode b_L_poke 6 = .ok (.goto 6, 3) := by decide +kernel
theorem d_L_poke_9 : decode b_L_poke 9 = .ok (.astore_n 3, 1) := by decide +kernel
theorem d_L_poke_10 : decode b_L_poke 10 = .ok (.iconst 1, 1) := by decide +kernel
theorem d_L_poke_11 : decode b_L_poke 11 = .ok (.ireturn, 1) := by decide +kernel
theorem d_L_poke_12 : decode b_L_poke 12 = .ok (.iconst 0, 1) := by decide +kernel
theorem d_L_poke_13 : decode b_L_poke 13 = .ok (.ireturn, 1) := by decide +kernel
theorem d_L_peek_0 : decode b_L_peek 0 = .ok (.aload_n 2, 1) := by decide +kernel
theorem d_L_peek_1 : decode b_L_peek 1 = .ok (.iconst 0, 1) := by decide +kernel
theorem d_L_peek_2 : decode b_L_peek 2 = .ok (.aload_n 0, 1) := by decide +kernel
theorem d_L_peek_3 : decode b_L_peek 3 = .ok (.iload_n 1, 1) := by decide +kernel
theorem d_L_peek_4 : decode b_L_peek 4 = .ok (.invokevirtual 21, 3) := by decide +kernel
theorem d_L_peek_7 : decode b_L_peek 7 = .ok (.i2l, 1) := by decide +kernel
theorem d_L_peek_8 : decode b_L_peek 8 = .ok (.lastore, 1) := by decide +kernel
theorem d_L_peek_9 : decode b_L_peek 9 = .ok (.goto 6, 3) := by decide +kernel
theorem d_L_peek_12 : decode b_L_peek 12 = .ok (.astore_n 3, 1) := by decide +kernel
theorem d_L_peek_13 : decode b_L_peek 13 = .ok (.iconst 1, 1) := by decide +kernel
theorem d_L_peek_14 : decode b_L_peek 14 = .ok (.ireturn, 1) := by decide +kernel
theorem d_L_peek_15 : decode b_L_peek 15 = .ok (.iconst 0, 1) := by decide +kernel
theorem d_L_peek_16 : decode b_L_peek 16 = .ok (.ireturn, 1) := by decide +kernel
theorem d_L_look_0 : decode b_L_look 0 = .ok (.aload_n 2, 1) := by decide +kernel
theorem d_L_look_1 : decode b_L_look 1 = .ok (.iconst 0, 1) := by decide +kernel
theorem d_L_look_2 : decode b_L_look 2 = .ok (.aload_n 0, 1) := by decide +kernel
theorem d_L_look_3 : decode b_L_look 3 = .ok (.iload_n 1, 1) := by decide +kernel
theorem d_L_look_4 : decode b_L_look 4 = .ok (.invokevirtual 25, 3) := by decide +kernel
theorem d_L_look_7 : decode b_L_look 7 = .ok (.i2l, 1) := by decide +kernel
theorem d_L_look_8 : decode b_L_look 8 = .ok (.lastore, 1) := by decide +kernel
theorem d_L_look_9 : decode b_L_look 9 = .ok (.goto 6, 3) := by decide +kernel
theorem d_L_look_12 : decode b_L_look 12 = .ok (.astore_n 3, 1) := by decide +kernel
theorem d_L_look_13 : decode b_L_look 13 = .ok (.iconst 1, 1) := by decide +kernel
theorem d_L_look_14 : decode b_L_look 14 = .ok (.ireturn, 1) := by decide +kernel
theorem d_L_look_15 : decode b_L_look 15 = .ok (.iconst 0, 1) := by decide +kernel
theorem d_L_look_16 : decode b_L_look 16 = .ok (.ireturn, 1) := by decide +kernel
theorem d_L_record_0 : decode b_L_record 0 = .ok (.aload 4, 2) := by decide +kernel
theorem d_L_record_2 : decode b_L_record 2 = .ok (.iconst 0, 1) := by decide +kernel
theorem d_L_record_3 : decode b_L_record 3 = .ok (.aload_n 0, 1) := by decide +kernel
theorem d_L_record_4 : decode b_L_record 4 = .ok (.iload_n 1, 1) := by decide +kernel
theorem d_L_record_5 : decode b_L_record 5 = .ok (.iload_n 2, 1) := by decide +kernel
theorem d_L_record_6 : decode b_L_record 6 = .ok (.iload_n 3, 1) := by decide +kernel
theorem d_L_record_7 : decode b_L_record 7 = .ok (.invokevirtual 28, 3) := by decide +kernel
theorem d_L_record_10 : decode b_L_record 10 = .ok (.i2l, 1) := by decide +kernel
theorem d_L_record_11 : decode b_L_record 11 = .ok (.lastore, 1) := by decide +kernel
theorem d_L_record_12 : decode b_L_record 12 = .ok (.goto 7, 3) := by decide +kernel
theorem d_L_record_15 : decode b_L_record 15 = .ok (.astore 5, 2) := by decide +kernel
theorem d_L_record_17 : decode b_L_record 17 = .ok (.iconst 1, 1) := by decide +kernel
theorem d_L_record_18 : decode b_L_record 18 = .ok (.ireturn, 1) := by decide +kernel
theorem d_L_record_19 : decode b_L_record 19 = .ok (.iconst 0, 1) := by decide +kernel
theorem d_L_record_20 : decode b_L_record 20 = .ok (.ireturn, 1) := by decide +kernel
theorem d_L_byteOf_0 : decode b_L_byteOf 0 = .ok (.aload 4, 2) := by decide +kernel
theorem d_L_byteOf_2 : decode b_L_byteOf 2 = .ok (.iconst 0, 1) := by decide +kernel
theorem d_L_byteOf_3 : decode b_L_byteOf 3 = .ok (.aload_n 0, 1) := by decide +kernel
theorem d_L_byteOf_4 : decode b_L_byteOf 4 = .ok (.iload_n 1, 1) := by decide +kernel
theorem d_L_byteOf_5 : decode b_L_byteOf 5 = .ok (.iload_n 2, 1) := by decide +kernel
theorem d_L_byteOf_6 : decode b_L_byteOf 6 = .ok (.iload_n 3, 1) := by decide +kernel
theorem d_L_byteOf_7 : decode b_L_byteOf 7 = .ok (.invokevirtual 31, 3) := by decide +kernel
theorem d_L_byteOf_10 : decode b_L_byteOf 10 = .ok (.i2l, 1) := by decide +kernel
theorem d_L_byteOf_11 : decode b_L_byteOf 11 = .ok (.lastore, 1) := by decide +kernel
theorem d_L_byteOf_12 : decode b_L_byteOf 12 = .ok (.goto 7, 3) := by decide +kernel
theorem d_L_byteOf_15 : decode b_L_byteOf 15 = .ok (.astore 5, 2) := by decide +kernel
theorem d_L_byteOf_17 : decode b_L_byteOf 17 = .ok (.iconst 1, 1) := by decide +kernel
theorem d_L_byteOf_18 : decode b_L_byteOf 18 = .ok (.ireturn, 1) := by decide +kernel
theorem d_L_byteOf_19 : decode b_L_byteOf 19 = .ok (.iconst 0, 1) := by decide +kernel
theorem d_L_byteOf_20 : decode b_L_byteOf 20 = .ok (.ireturn, 1) := by decide +kernel
theorem d_L_spoil_0 : decode b_L_spoil 0 = .ok (.aload_n 0, 1) := by decide +kernel
theorem d_L_spoil_1 : decode b_L_spoil 1 = .ok (.iload_n 1, 1) := by decide +kernel
theorem d_L_spoil_2 : decode b_L_spoil 2 = .ok (.iload_n 2, 1) := by decide +kernel
theorem d_L_spoil_3 : decode b_L_spoil 3 = .ok (.invokevirtual 34, 3) := by decide +kernel
theorem d_L_spoil_6 : decode b_L_spoil 6 = .ok (.goto 6, 3) := by decide +kernel
theorem d_L_spoil_9 : decode b_L_spoil 9 = .ok (.astore_n 3, 1) := by decide +kernel
theorem d_L_spoil_10 : decode b_L_spoil 10 = .ok (.iconst 1, 1) := by decide +kernel
theorem d_L_spoil_11 : decode b_L_spoil 11 = .ok (.ireturn, 1) := by decide +kernel
theorem d_L_spoil_12 : decode b_L_spoil 12 = .ok (.iconst 0, 1) := by decide +kernel
theorem d_L_spoil_13 : decode b_L_spoil 13 = .ok (.ireturn, 1) := by decide +kernel
theorem d_L_allocate_0 : decode b_L_allocate 0 = .ok (.aload_n 3, 1) := by decide +kernel
theorem d_L_allocate_1 : decode b_L_allocate 1 = .ok (.iconst 0, 1) := by decide +kernel
theorem d_L_allocate_2 : decode b_L_allocate 2 = .ok (.aload_n 0, 1) := by decide +kernel
theorem d_L_allocate_3 : decode b_L_allocate 3 = .ok (.iload_n 1, 1) := by decide +kernel
theorem d_L_allocate_4 : decode b_L_allocate 4 = .ok (.iload_n 2, 1) := by decide +kernel
theorem d_L_allocate_5 : decode b_L_allocate 5 = .ok (.invokevirtual 37, 3) := by decide +kernel
theorem d_L_allocate_8 : decode b_L_allocate 8 = .ok (.i2l, 1) := by decide +kernel
theorem d_L_allocate_9 : decode b_L_allocate 9 = .ok (.lastore, 1) := by decide +kernel
theorem d_L_allocate_10 : decode b_L_allocate 10 = .ok (.goto 11, 3) := by decide +kernel
theorem d_L_allocate_13 : decode b_L_allocate 13 = .ok (.astore 4, 2) := by decide +kernel
theorem d_L_allocate_15 : decode b_L_allocate 15 = .ok (.iconst 1, 1) := by decide +kernel
theorem d_L_allocate_16 : decode b_L_allocate 16 = .ok (.ireturn, 1) := by decide +kernel
theorem d_L_allocate_17 : decode b_L_allocate 17 = .ok (.astore 4, 2) := by decide +kernel
theorem d_L_allocate_19 : decode b_L_allocate 19 = .ok (.iconst 2, 1) := by decide +kernel
theorem d_L_allocate_20 : decode b_L_allocate 20 = .ok (.ireturn, 1) := by decide +kernel
theorem d_L_allocate_21 : decode b_L_allocate 21 = .ok (.iconst 0, 1) := by decide +kernel
theorem d_L_allocate_22 : decode b_L_allocate 22 = .ok (.ireturn, 1) := by decide +kernel
theorem d_L_scratch_0 : decode b_L_scratch 0 = .ok (.aload_n 0, 1) := by decide +kernel
theorem d_L_scratch_1 : decode b_L_scratch 1 = .ok (.iload_n 1, 1) := by decide +kernel
theorem d_L_scratch_2 : decode b_L_scratch 2 = .ok (.invokevirtual 41, 3) := by decide +kernel
theorem d_L_scratch_5 : decode b_L_scratch 5 = .ok (.goto 9, 3) := by decide +kernel
theorem d_L_scratch_8 : decode b_L_scratch 8 = .ok (.astore_n 2, 1) := by decide +kernel
theorem d_L_scratch_9 : decode b_L_scratch 9 = .ok (.iconst 1, 1) := by decide +kernel
theorem d_L_scratch_10 : decode b_L_scratch 10 = .ok (.ireturn, 1) := by decide +kernel
theorem d_L_scratch_11 : decode b_L_scratch 11 = .ok (.astore_n 2, 1) := by decide +kernel
theorem d_L_scratch_12 : decode b_L_scratch 12 = .ok (.iconst 2, 1) := by decide +kernel
theorem d_L_scratch_13 : decode b_L_scratch 13 = .ok (.ireturn, 1) := by decide +kernel
theorem d_L_scratch_14 : decode b_L_scratch 14 = .ok (.iconst 0, 1) := by decide +kernel
theorem d_L_scratch_15 : decode b_L_scratch 15 = .ok (.ireturn, 1) := by decide +kernel
theorem d_L_trackOf_0 : decode b_L_trackOf 0 = .ok (.aload_n 3, 1) := by decide +kernel
theorem d_L_trackOf_1 : decode b_L_trackOf 1 = .ok (.iconst 0, 1) := by decide +kernel
theorem d_L_trackOf_2 : decode b_L_trackOf 2 = .ok (.aload_n 0, 1) := by decide +kernel
theorem d_L_trackOf_3 : decode b_L_trackOf 3 = .ok (.iload_n 1, 1) := by decide +kernel
theorem d_L_trackOf_4 : decode b_L_trackOf 4 = .ok (.iload_n 2, 1) := by decide +kernel
theorem d_L_trackOf_5 : decode b_L_trackOf 5 = .ok (.invokevirtual 45, 3) := by decide +kernel
theorem d_L_trackOf_8 : decode b_L_trackOf 8 = .ok (.i2l, 1) := by decide +kernel
theorem d_L_trackOf_9 : decode b_L_trackOf 9 = .ok (.lastore, 1) := by decide +kernel
theorem d_L_trackOf_10 : decode b_L_trackOf 10 = .ok (.goto 7, 3) := by decide +kernel
theorem d_L_trackOf_13 : decode b_L_trackOf 13 = .ok (.astore 4, 2) := by decide +kernel
theorem d_L_trackOf_15 : decode b_L_trackOf 15 = .ok (.iconst 1, 1) := by decide +kernel
theorem d_L_trackOf_16 : decode b_L_trackOf 16 = .ok (.ireturn, 1) := by decide +kernel
theorem d_L_trackOf_17 : decode b_L_trackOf 17 = .ok (.iconst 0, 1) := by decide +kernel
theorem d_L_trackOf_18 : decode b_L_trackOf 18 = .ok (.ireturn, 1) := by decide +kernel
theorem d_L_store_0 : decode b_L_store 0 = .ok (.aload 4, 2) := by decide +kernel
theorem d_L_store_2 : decode b_L_store 2 = .ok (.iconst 0, 1) := by decide +kernel
theorem d_L_store_3 : decode b_L_store 3 = .ok (.aload_n 0, 1) := by decide +kernel
theorem d_L_store_4 : decode b_L_store 4 = .ok (.iload_n 1, 1) := by decide +kernel
theorem d_L_store_5 : decode b_L_store 5 = .ok (.iload_n 2, 1) := by decide +kernel
theorem d_L_store_6 : decode b_L_store 6 = .ok (.iload_n 3, 1) := by decide +kernel
theorem d_L_store_7 : decode b_L_store 7 = .ok (.invokevirtual 48, 3) := by decide +kernel
theorem d_L_store_10 : decode b_L_store 10 = .ok (.i2l, 1) := by decide +kernel
theorem d_L_store_11 : decode b_L_store 11 = .ok (.lastore, 1) := by decide +kernel
theorem d_L_store_12 : decode b_L_store 12 = .ok (.goto 11, 3) := by decide +kernel
theorem d_L_store_15 : decode b_L_store 15 = .ok (.astore 5, 2) := by decide +kernel
theorem d_L_store_17 : decode b_L_store 17 = .ok (.iconst 1, 1) := by decide +kernel
theorem d_L_store_18 : decode b_L_store 18 = .ok (.ireturn, 1) := by decide +kernel
theorem d_L_store_19 : decode b_L_store 19 = .ok (.astore 5, 2) := by decide +kernel
theorem d_L_store_21 : decode b_L_store 21 = .ok (.iconst 2, 1) := by decide +kernel
theorem d_L_store_22 : decode b_L_store 22 = .ok (.ireturn, 1) := by decide +kernel
theorem d_L_store_23 : decode b_L_store 23 = .ok (.iconst 0, 1) := by decide +kernel
theorem d_L_store_24 : decode b_L_store 24 = .ok (.ireturn, 1) := by decide +kernel
theorem d_L_fetch_0 : decode b_L_fetch 0 = .ok (.aload_n 3, 1) := by decide +kernel
theorem d_L_fetch_1 : decode b_L_fetch 1 = .ok (.iconst 0, 1) := by decide +kernel
theorem d_L_fetch_2 : decode b_L_fetch 2 = .ok (.aload_n 0, 1) := by decide +kernel
theorem d_L_fetch_3 : decode b_L_fetch 3 = .ok (.iload_n 1, 1) := by decide +kernel
theorem d_L_fetch_4 : decode b_L_fetch 4 = .ok (.iload_n 2, 1) := by decide +kernel
theorem d_L_fetch_5 : decode b_L_fetch 5 = .ok (.invokevirtual 51, 3) := by decide +kernel
theorem d_L_fetch_8 : decode b_L_fetch 8 = .ok (.i2l, 1) := by decide +kernel
theorem d_L_fetch_9 : decode b_L_fetch 9 = .ok (.lastore, 1) := by decide +kernel
theorem d_L_fetch_10 : decode b_L_fetch 10 = .ok (.goto 11, 3) := by decide +kernel
theorem d_L_fetch_13 : decode b_L_fetch 13 = .ok (.astore 4, 2) := by decide +kernel
theorem d_L_fetch_15 : decode b_L_fetch 15 = .ok (.iconst 1, 1) := by decide +kernel
theorem d_L_fetch_16 : decode b_L_fetch 16 = .ok (.ireturn, 1) := by decide +kernel
theorem d_L_fetch_17 : decode b_L_fetch 17 = .ok (.astore 4, 2) := by decide +kernel
theorem d_L_fetch_19 : decode b_L_fetch 19 = .ok (.iconst 2, 1) := by decide +kernel
theorem d_L_fetch_20 : decode b_L_fetch 20 = .ok (.ireturn, 1) := by decide +kernel
theorem d_L_fetch_21 : decode b_L_fetch 21 = .ok (.iconst 0, 1) := by decide +kernel
theorem d_L_fetch_22 : decode b_L_fetch 22 = .ok (.ireturn, 1) := by decide +kernel
theorem d_L_law_0 : decode code 0 = .ok (.new 8, 3) := by decide +kernel
theorem d_L_law_3 : decode code 3 = .ok (.dup, 1) := by decide +kernel
theorem d_L_law_4 : decode code 4 = .ok (.invokespecial 54, 3) := by decide +kernel
theorem d_L_law_7 : decode code 7 = .ok (.astore_n 1, 1) := by decide +kernel
theorem d_L_law_8 : decode code 8 = .ok (.new 55, 3) := by decide +kernel
theorem d_L_law_11 : decode code 11 = .ok (.dup, 1) := by decide +kernel
theorem d_L_law_12 : decode code 12 = .ok (.invokespecial 57, 3) := by decide +kernel
theorem d_L_law_15 : decode code 15 = .ok (.astore_n 2, 1) := by decide +kernel
theorem d_L_law_16 : decode code 16 = .ok (.iconst 1, 1) := by decide +kernel
theorem d_L_law_17 : decode code 17 = .ok (.newarray .long, 2) := by decide +kernel
theorem d_L_law_19 : decode code 19 = .ok (.astore_n 3, 1) := by decide +kernel
theorem d_L_law_20 : decode code 20 = .ok (.iconst 0, 1) := by decide +kernel
theorem d_L_law_21 : decode code 21 = .ok (.istore 4, 2) := by decide +kernel
theorem d_L_law_23 : decode code 23 = .ok (.iload 4, 2) := by decide +kernel
theorem d_L_law_25 : decode code 25 = .ok (.aload_n 0, 1) := by decide +kernel
theorem d_L_law_26 : decode code 26 = .ok (.arraylength, 1) := by decide +kernel
theorem d_L_law_27 : decode code 27 = .ok (.iconst 4, 1) := by decide +kernel
theorem d_L_law_28 : decode code 28 = .ok (.isub, 1) := by decide +kernel
theorem d_L_law_29 : decode code 29 = .ok (.if_icmp .gt 897, 3) := by decide +kernel
theorem d_L_law_32 : decode code 32 = .ok (.aload_n 0, 1) := by decide +kernel
theorem d_L_law_33 : decode code 33 = .ok (.iload 4, 2) := by decide +kernel
theorem d_L_law_35 : decode code 35 = .ok (.iaload, 1) := by decide +kernel
theorem d_L_law_36 : decode code 36 = .ok (.bipush 15, 2) := by decide +kernel
theorem d_L_law_38 : decode code 38 = .ok (.iand, 1) := by decide +kernel
theorem d_L_law_39 : decode code 39 = .ok (.tableswitch 881 0 14 #[73, 153, 201, 257, 270, 326, 340, 420, 500, 548, 616, 652, 720, 733, 813], 73) := by decide +kernel
theorem d_L_law_112 : decode code 112 = .ok (.aload_n 1, 1) := by decide +kernel
theorem d_L_law_113 : decode code 113 = .ok (.aload_n 0, 1) := by decide +kernel
theorem d_L_law_114 : decode code 114 = .ok (.iload 4, 2) := by decide +kernel
theorem d_L_law_116 : decode code 116 = .ok (.iconst 1, 1) := by decide +kernel
theorem d_L_law_117 : decode code 117 = .ok (.iadd, 1) := by decide +kernel
theorem d_L_law_118 : decode code 118 = .ok (.iaload, 1) := by decide +kernel
theorem d_L_law_119 : decode code 119 = .ok (.aload_n 0, 1) := by decide +kernel
theorem d_L_law_120 : decode code 120 = .ok (.iload 4, 2) := by decide +kernel
theorem d_L_law_122 : decode code 122 = .ok (.iconst 2, 1) := by decide +kernel
theorem d_L_law_123 : decode code 123 = .ok (.iadd, 1) := by decide +kernel
theorem d_L_law_124 : decode code 124 = .ok (.iaload, 1) := by decide +kernel
theorem d_L_law_125 : decode code 125 = .ok (.aload_n 0, 1) := by decide +kernel
theorem d_L_law_126 : decode code 126 = .ok (.iload 4, 2) := by decide +kernel
theorem d_L_law_128 : decode code 128 = .ok (.iconst 3, 1) := by decide +kernel
theorem d_L_law_129 : decode code 129 = .ok (.iadd, 1) := by decide +kernel
theorem d_L_law_130 : decode code 130 = .ok (.iaload, 1) := by decide +kernel
theorem d_L_law_131 : decode code 131 = .ok (.aload_n 3, 1) := by decide +kernel
theorem d_L_law_132 : decode code 132 = .ok (.invokestatic 58, 3) := by decide +kernel
theorem d_L_law_135 : decode code 135 = .ok (.istore 5, 2) := by decide +kernel
theorem d_L_law_137 : decode code 137 = .ok (.aload_n 2, 1) := by decide +kernel
theorem d_L_law_138 : decode code 138 = .ok (.aload_n 0, 1) := by decide +kernel
theorem d_L_law_139 : decode code 139 = .ok (.iload 4, 2) := by decide +kernel
theorem d_L_law_141 : decode code 141 = .ok (.iconst 1, 1) := by decide +kernel
theorem d_L_law_142 : decode code 142 = .ok (.iadd, 1) := by decide +kernel
theorem d_L_law_143 : decode code 143 = .ok (.iaload, 1) := by decide +kernel
theorem d_L_law_144 : decode code 144 = .ok (.aload_n 0, 1) := by decide +kernel
theorem d_L_law_145 : decode code 145 = .ok (.iload 4, 2) := by decide +kernel
theorem d_L_law_147 : decode code 147 = .ok (.iconst 2, 1) := by decide +kernel
theorem d_L_law_148 : decode code 148 = .ok (.iadd, 1) := by decide +kernel
theorem d_L_law_149 : decode code 149 = .ok (.iaload, 1) := by decide +kernel
theorem d_L_law_150 : decode code 150 = .ok (.aload_n 0, 1) := by decide +kernel
theorem d_L_law_151 : decode code 151 = .ok (.iload 4, 2) := by decide +kernel
theorem d_L_law_153 : decode code 153 = .ok (.iconst 3, 1) := by decide +kernel
theorem d_L_law_154 : decode code 154 = .ok (.iadd, 1) := by decide +kernel
theorem d_L_law_155 : decode code 155 = .ok (.iaload, 1) := by decide +kernel
theorem d_L_law_156 : decode code 156 = .ok (.invokevirtual 63, 3) := by decide +kernel
theorem d_L_law_159 : decode code 159 = .ok (.istore 6, 2) := by decide +kernel
theorem d_L_law_161 : decode code 161 = .ok (.aload_n 2, 1) := by decide +kernel
theorem d_L_law_162 : decode code 162 = .ok (.invokevirtual 64, 3) := by decide +kernel
theorem d_L_law_165 : decode code 165 = .ok (.iload 5, 2) := by decide +kernel
theorem d_L_law_167 : decode code 167 = .ok (.if_icmp .eq 5, 3) := by decide +kernel
theorem d_L_law_170 : decode code 170 = .ok (.iconst 0, 1) := by decide +kernel
theorem d_L_law_171 : decode code 171 = .ok (.ireturn, 1) := by decide +kernel
theorem d_L_law_172 : decode code 172 = .ok (.iload 5, 2) := by decide +kernel
theorem d_L_law_174 : decode code 174 = .ok (.ifCond .ne 15, 3) := by decide +kernel
theorem d_L_law_177 : decode code 177 = .ok (.aload_n 3, 1) := by decide +kernel
theorem d_L_law_178 : decode code 178 = .ok (.iconst 0, 1) := by decide +kernel
theorem d_L_law_179 : decode code 179 = .ok (.laload, 1) := by decide +kernel
theorem d_L_law_180 : decode code 180 = .ok (.iload 6, 2) := by decide +kernel
theorem d_L_law_182 : decode code 182 = .ok (.i2l, 1) := by decide +kernel
theorem d_L_law_183 : decode code 183 = .ok (.lcmp, 1) := by decide +kernel
theorem d_L_law_184 : decode code 184 = .ok (.ifCond .eq 5, 3) := by decide +kernel
theorem d_L_law_187 : decode code 187 = .ok (.iconst 0, 1) := by decide +kernel
theorem d_L_law_188 : decode code 188 = .ok (.ireturn, 1) := by decide +kernel
theorem d_L_law_189 : decode code 189 = .ok (.goto 731, 3) := by decide +kernel
theorem d_L_law_192 : decode code 192 = .ok (.aload_n 1, 1) := by decide +kernel
theorem d_L_law_193 : decode code 193 = .ok (.aload_n 0, 1) := by decide +kernel
theorem d_L_law_194 : decode code 194 = .ok (.iload 4, 2) := by decide +kernel
theorem d_L_law_196 : decode code 196 = .ok (.iconst 1, 1) := by decide +kernel
theorem d_L_law_197 : decode code 197 = .ok (.iadd, 1) := by decide +kernel
theorem d_L_law_198 : decode code 198 = .ok (.iaload, 1) := by decide +kernel
theorem d_L_law_199 : decode code 199 = .ok (.aload_n 0, 1) := by decide +kernel
theorem d_L_law_200 : decode code 200 = .ok (.iload 4, 2) := by decide +kernel
theorem d_L_law_202 : decode code 202 = .ok (.iconst 2, 1) := by decide +kernel
theorem d_L_law_203 : decode code 203 = .ok (.iadd, 1) := by decide +kernel
theorem d_L_law_204 : decode code 204 = .ok (.iaload, 1) := by decide +kernel
theorem d_L_law_205 : decode code 205 = .ok (.invokestatic 68, 3) := by decide +kernel
theorem d_L_law_208 : decode code 208 = .ok (.istore 5, 2) := by decide +kernel
theorem d_L_law_210 : decode code 210 = .ok (.aload_n 2, 1) := by decide +kernel
theorem d_L_law_211 : decode code 211 = .ok (.aload_n 0, 1) := by decide +kernel
theorem d_L_law_212 : decode code 212 = .ok (.iload 4, 2) := by decide +kernel
theorem d_L_law_214 : decode code 214 = .ok (.iconst 1, 1) := by decide +kernel
theorem d_L_law_215 : decode code 215 = .ok (.iadd, 1) := by decide +kernel
theorem d_L_law_216 : decode code 216 = .ok (.iaload, 1) := by decide +kernel
theorem d_L_law_217 : decode code 217 = .ok (.aload_n 0, 1) := by decide +kernel
theorem d_L_law_218 : decode code 218 = .ok (.iload 4, 2) := by decide +kernel
theorem d_L_law_220 : decode code 220 = .ok (.iconst 2, 1) := by decide +kernel
theorem d_L_law_221 : decode code 221 = .ok (.iadd, 1) := by decide +kernel
theorem d_L_law_222 : decode code 222 = .ok (.iaload, 1) := by decide +kernel
theorem d_L_law_223 : decode code 223 = .ok (.invokevirtual 71, 3) := by decide +kernel
theorem d_L_law_226 : decode code 226 = .ok (.aload_n 2, 1) := by decide +kernel
theorem d_L_law_227 : decode code 227 = .ok (.invokevirtual 64, 3) := by decide +kernel
theorem d_L_law_230 : decode code 230 = .ok (.iload 5, 2) := by decide +kernel
theorem d_L_law_232 : decode code 232 = .ok (.if_icmp .eq 5, 3) := by decide +kernel
theorem d_L_law_235 : decode code 235 = .ok (.iconst 0, 1) := by decide +kernel
theorem d_L_law_236 : decode code 236 = .ok (.ireturn, 1) := by decide +kernel
theorem d_L_law_237 : decode code 237 = .ok (.goto 683, 3) := by decide +kernel
theorem d_L_law_240 : decode code 240 = .ok (.aload_n 1, 1) := by decide +kernel
theorem d_L_law_241 : decode code 241 = .ok (.aload_n 0, 1) := by decide +kernel
theorem d_L_law_242 : decode code 242 = .ok (.iload 4, 2) := by decide +kernel
theorem d_L_law_244 : decode code 244 = .ok (.iconst 1, 1) := by decide +kernel
theorem d_L_law_245 : decode code 245 = .ok (.iadd, 1) := by decide +kernel
theorem d_L_law_246 : decode code 246 = .ok (.iaload, 1) := by decide +kernel
theorem d_L_law_247 : decode code 247 = .ok (.aload_n 3, 1) := by decide +kernel
theorem d_L_law_248 : decode code 248 = .ok (.invokestatic 72, 3) := by decide +kernel
theorem d_L_law_251 : decode code 251 = .ok (.istore 5, 2) := by decide +kernel
theorem d_L_law_253 : decode code 253 = .ok (.aload_n 2, 1) := by decide +kernel
theorem d_L_law_254 : decode code 254 = .ok (.aload_n 0, 1) := by decide +kernel
theorem d_L_law_255 : decode code 255 = .ok (.iload 4, 2) := by decide +kernel
theorem d_L_law_257 : decode code 257 = .ok (.iconst 1, 1) := by decide +kernel
theorem d_L_law_258 : decode code 258 = .ok (.iadd, 1) := by decide +kernel
theorem d_L_law_259 : decode code 259 = .ok (.iaload, 1) := by decide +kernel
theorem d_L_law_260 : decode code 260 = .ok (.invokevirtual 75, 3) := by decide +kernel
theorem d_L_law_263 : decode code 263 = .ok (.istore 6, 2) := by decide +kernel
theorem d_L_law_265 : decode code 265 = .ok (.aload_n 2, 1) := by decide +kernel
theorem d_L_law_266 : decode code 266 = .ok (.invokevirtual 64, 3) := by decide +kernel
theorem d_L_law_269 : decode code 269 = .ok (.iload 5, 2) := by decide +kernel
theorem d_L_law_271 : decode code 271 = .ok (.if_icmp .eq 5, 3) := by decide +kernel
theorem d_L_law_274 : decode code 274 = .ok (.iconst 0, 1) := by decide +kernel
theorem d_L_law_275 : decode code 275 = .ok (.ireturn, 1) := by decide +kernel
theorem d_L_law_276 : decode code 276 = .ok (.iload 5, 2) := by decide +kernel
theorem d_L_law_278 : decode code 278 = .ok (.ifCond .ne 15, 3) := by decide +kernel
theorem d_L_law_281 : decode code 281 = .ok (.aload_n 3, 1) := by decide +kernel
theorem d_L_law_282 : decode code 282 = .ok (.iconst 0, 1) := by decide +kernel
theorem d_L_law_283 : decode code 283 = .ok (.laload, 1) := by decide +kernel
theorem d_L_law_284 : decode code 284 = .ok (.iload 6, 2) := by decide +kernel
theorem d_L_law_286 : decode code 286 = .ok (.i2l, 1) := by decide +kernel
theorem d_L_law_287 : decode code 287 = .ok (.lcmp, 1) := by decide +kernel
theorem d_L_law_288 : decode code 288 = .ok (.ifCond .eq 5, 3) := by decide +kernel
theorem d_L_law_291 : decode code 291 = .ok (.iconst 0, 1) := by decide +kernel
theorem d_L_law_292 : decode code 292 = .ok (.ireturn, 1) := by decide +kernel
theorem d_L_law_293 : decode code 293 = .ok (.goto 627, 3) := by decide +kernel
theorem d_L_law_296 : decode code 296 = .ok (.aload_n 1, 1) := by decide +kernel
theorem d_L_law_297 : decode code 297 = .ok (.invokevirtual 76, 3) := by decide +kernel
theorem d_L_law_300 : decode code 300 = .ok (.aload_n 2, 1) := by decide +kernel
theorem d_L_law_301 : decode code 301 = .ok (.invokevirtual 79, 3) := by decide +kernel
theorem d_L_law_304 : decode code 304 = .ok (.if_icmp .eq 616, 3) := by decide +kernel
theorem d_L_law_307 : decode code 307 = .ok (.iconst 0, 1) := by decide +kernel
theorem d_L_law_308 : decode code 308 = .ok (.ireturn, 1) := by decide +kernel
theorem d_L_law_309 : decode code 309 = .ok (.aload_n 1, 1) := by decide +kernel
theorem d_L_law_310 : decode code 310 = .ok (.aload_n 0, 1) := by decide +kernel
theorem d_L_law_311 : decode code 311 = .ok (.iload 4, 2) := by decide +kernel
theorem d_L_law_313 : decode code 313 = .ok (.iconst 1, 1) := by decide +kernel
theorem d_L_law_314 : decode code 314 = .ok (.iadd, 1) := by decide +kernel
theorem d_L_law_315 : decode code 315 = .ok (.iaload, 1) := by decide +kernel
theorem d_L_law_316 : decode code 316 = .ok (.aload_n 3, 1) := by decide +kernel
theorem d_L_law_317 : decode code 317 = .ok (.invokestatic 80, 3) := by decide +kernel
theorem d_L_law_320 : decode code 320 = .ok (.istore 5, 2) := by decide +kernel
theorem d_L_law_322 : decode code 322 = .ok (.aload_n 2, 1) := by decide +kernel
theorem d_L_law_323 : decode code 323 = .ok (.aload_n 0, 1) := by decide +kernel
theorem d_L_law_324 : decode code 324 = .ok (.iload 4, 2) := by decide +kernel
theorem d_L_law_326 : decode code 326 = .ok (.iconst 1, 1) := by decide +kernel
theorem d_L_law_327 : decode code 327 = .ok (.iadd, 1) := by decide +kernel
theorem d_L_law_328 : decode code 328 = .ok (.iaload, 1) := by decide +kernel
theorem d_L_law_329 : decode code 329 = .ok (.invokevirtual 82, 3) := by decide +kernel
theorem d_L_law_332 : decode code 332 = .ok (.istore 6, 2) := by decide +kernel
theorem d_L_law_334 : decode code 334 = .ok (.aload_n 2, 1) := by decide +kernel
theorem d_L_law_335 : decode code 335 = .ok (.invokevirtual 64, 3) := by decide +kernel
theorem d_L_law_338 : decode code 338 = .ok (.iload 5, 2) := by decide +kernel
theorem d_L_law_340 : decode code 340 = .ok (.if_icmp .eq 5, 3) := by decide +kernel
theorem d_L_law_343 : decode code 343 = .ok (.iconst 0, 1) := by decide +kernel
theorem d_L_law_344 : decode code 344 = .ok (.ireturn, 1) := by decide +kernel
theorem d_L_law_345 : decode code 345 = .ok (.iload 5, 2) := by decide +kernel
theorem d_L_law_347 : decode code 347 = .ok (.ifCond .ne 15, 3) := by decide +kernel
theorem d_L_law_350 : decode code 350 = .ok (.aload_n 3, 1) := by decide +kernel
theorem d_L_law_351 : decode code 351 = .ok (.iconst 0, 1) := by decide +kernel
theorem d_L_law_352 : decode code 352 = .ok (.laload, 1) := by decide +kernel
theorem d_L_law_353 : decode code 353 = .ok (.iload 6, 2) := by decide +kernel
theorem d_L_law_355 : decode code 355 = .ok (.i2l, 1) := by decide +kernel
theorem d_L_law_356 : decode code 356 = .ok (.lcmp, 1) := by decide +kernel
theorem d_L_law_357 : decode code 357 = .ok (.ifCond .eq 5, 3) := by decide +kernel
theorem d_L_law_360 : decode code 360 = .ok (.iconst 0, 1) := by decide +kernel
theorem d_L_law_361 : decode code 361 = .ok (.ireturn, 1) := by decide +kernel
theorem d_L_law_362 : decode code 362 = .ok (.goto 558, 3) := by decide +kernel
theorem d_L_law_365 : decode code 365 = .ok (.aload_n 1, 1) := by decide +kernel
theorem d_L_law_366 : decode code 366 = .ok (.invokevirtual 83, 3) := by decide +kernel
theorem d_L_law_369 : decode code 369 = .ok (.aload_n 2, 1) := by decide +kernel
theorem d_L_law_370 : decode code 370 = .ok (.invokevirtual 87, 3) := by decide +kernel
theorem d_L_law_373 : decode code 373 = .ok (.lcmp, 1) := by decide +kernel
theorem d_L_law_374 : decode code 374 = .ok (.ifCond .eq 546, 3) := by decide +kernel
theorem d_L_law_377 : decode code 377 = .ok (.iconst 0, 1) := by decide +kernel
theorem d_L_law_378 : decode code 378 = .ok (.ireturn, 1) := by decide +kernel
theorem d_L_law_379 : decode code 379 = .ok (.aload_n 1, 1) := by decide +kernel
theorem d_L_law_380 : decode code 380 = .ok (.aload_n 0, 1) := by decide +kernel
theorem d_L_law_381 : decode code 381 = .ok (.iload 4, 2) := by decide +kernel
theorem d_L_law_383 : decode code 383 = .ok (.iconst 1, 1) := by decide +kernel
theorem d_L_law_384 : decode code 384 = .ok (.iadd, 1) := by decide +kernel
theorem d_L_law_385 : decode code 385 = .ok (.iaload, 1) := by decide +kernel
theorem d_L_law_386 : decode code 386 = .ok (.aload_n 0, 1) := by decide +kernel
theorem d_L_law_387 : decode code 387 = .ok (.iload 4, 2) := by decide +kernel
theorem d_L_law_389 : decode code 389 = .ok (.iconst 2, 1) := by decide +kernel
theorem d_L_law_390 : decode code 390 = .ok (.iadd, 1) := by decide +kernel
theorem d_L_law_391 : decode code 391 = .ok (.iaload, 1) := by decide +kernel
theorem d_L_law_392 : decode code 392 = .ok (.aload_n 0, 1) := by decide +kernel
theorem d_L_law_393 : decode code 393 = .ok (.iload 4, 2) := by decide +kernel
theorem d_L_law_395 : decode code 395 = .ok (.iconst 3, 1) := by decide +kernel
theorem d_L_law_396 : decode code 396 = .ok (.iadd, 1) := by decide +kernel
theorem d_L_law_397 : decode code 397 = .ok (.iaload, 1) := by decide +kernel
theorem d_L_law_398 : decode code 398 = .ok (.aload_n 3, 1) := by decide +kernel
theorem d_L_law_399 : decode code 399 = .ok (.invokestatic 88, 3) := by decide +kernel
theorem d_L_law_402 : decode code 402 = .ok (.istore 5, 2) := by decide +kernel
theorem d_L_law_404 : decode code 404 = .ok (.aload_n 2, 1) := by decide +kernel
theorem d_L_law_405 : decode code 405 = .ok (.aload_n 0, 1) := by decide +kernel
theorem d_L_law_406 : decode code 406 = .ok (.iload 4, 2) := by decide +kernel
theorem d_L_law_408 : decode code 408 = .ok (.iconst 1, 1) := by decide +kernel
theorem d_L_law_409 : decode code 409 = .ok (.iadd, 1) := by decide +kernel
theorem d_L_law_410 : decode code 410 = .ok (.iaload, 1) := by decide +kernel
theorem d_L_law_411 : decode code 411 = .ok (.aload_n 0, 1) := by decide +kernel
theorem d_L_law_412 : decode code 412 = .ok (.iload 4, 2) := by decide +kernel
theorem d_L_law_414 : decode code 414 = .ok (.iconst 2, 1) := by decide +kernel
theorem d_L_law_415 : decode code 415 = .ok (.iadd, 1) := by decide +kernel
theorem d_L_law_416 : decode code 416 = .ok (.iaload, 1) := by decide +kernel
theorem d_L_law_417 : decode code 417 = .ok (.aload_n 0, 1) := by decide +kernel
theorem d_L_law_418 : decode code 418 = .ok (.iload 4, 2) := by decide +kernel
theorem d_L_law_420 : decode code 420 = .ok (.iconst 3, 1) := by decide +kernel
theorem d_L_law_421 : decode code 421 = .ok (.iadd, 1) := by decide +kernel
theorem d_L_law_422 : decode code 422 = .ok (.iaload, 1) := by decide +kernel
theorem d_L_law_423 : decode code 423 = .ok (.invokevirtual 90, 3) := by decide +kernel
theorem d_L_law_426 : decode code 426 = .ok (.istore 6, 2) := by decide +kernel
theorem d_L_law_428 : decode code 428 = .ok (.aload_n 2, 1) := by decide +kernel
theorem d_L_law_429 : decode code 429 = .ok (.invokevirtual 64, 3) := by decide +kernel
theorem d_L_law_432 : decode code 432 = .ok (.iload 5, 2) := by decide +kernel
theorem d_L_law_434 : decode code 434 = .ok (.if_icmp .eq 5, 3) := by decide +kernel
theorem d_L_law_437 : decode code 437 = .ok (.iconst 0, 1) := by decide +kernel
theorem d_L_law_438 : decode code 438 = .ok (.ireturn, 1) := by decide +kernel
theorem d_L_law_439 : decode code 439 = .ok (.iload 5, 2) := by decide +kernel
theorem d_L_law_441 : decode code 441 = .ok (.ifCond .ne 15, 3) := by decide +kernel
theorem d_L_law_444 : decode code 444 = .ok (.aload_n 3, 1) := by decide +kernel
theorem d_L_law_445 : decode code 445 = .ok (.iconst 0, 1) := by decide +kernel
theorem d_L_law_446 : decode code 446 = .ok (.laload, 1) := by decide +kernel
theorem d_L_law_447 : decode code 447 = .ok (.iload 6, 2) := by decide +kernel
theorem d_L_law_449 : decode code 449 = .ok (.i2l, 1) := by decide +kernel
theorem d_L_law_450 : decode code 450 = .ok (.lcmp, 1) := by decide +kernel
theorem d_L_law_451 : decode code 451 = .ok (.ifCond .eq 5, 3) := by decide +kernel
theorem d_L_law_454 : decode code 454 = .ok (.iconst 0, 1) := by decide +kernel
theorem d_L_law_455 : decode code 455 = .ok (.ireturn, 1) := by decide +kernel
theorem d_L_law_456 : decode code 456 = .ok (.goto 464, 3) := by decide +kernel
theorem d_L_law_459 : decode code 459 = .ok (.aload_n 1, 1) := by decide +kernel
theorem d_L_law_460 : decode code 460 = .ok (.aload_n 0, 1) := by decide +kernel
theorem d_L_law_461 : decode code 461 = .ok (.iload 4, 2) := by decide +kernel
theorem d_L_law_463 : decode code 463 = .ok (.iconst 1, 1) := by decide +kernel
theorem d_L_law_464 : decode code 464 = .ok (.iadd, 1) := by decide +kernel
theorem d_L_law_465 : decode code 465 = .ok (.iaload, 1) := by decide +kernel
theorem d_L_law_466 : decode code 466 = .ok (.aload_n 0, 1) := by decide +kernel
theorem d_L_law_467 : decode code 467 = .ok (.iload 4, 2) := by decide +kernel
theorem d_L_law_469 : decode code 469 = .ok (.iconst 2, 1) := by decide +kernel
theorem d_L_law_470 : decode code 470 = .ok (.iadd, 1) := by decide +kernel
theorem d_L_law_471 : decode code 471 = .ok (.iaload, 1) := by decide +kernel
theorem d_L_law_472 : decode code 472 = .ok (.aload_n 0, 1) := by decide +kernel
theorem d_L_law_473 : decode code 473 = .ok (.iload 4, 2) := by decide +kernel
theorem d_L_law_475 : decode code 475 = .ok (.iconst 3, 1) := by decide +kernel
theorem d_L_law_476 : decode code 476 = .ok (.iadd, 1) := by decide +kernel
theorem d_L_law_477 : decode code 477 = .ok (.iaload, 1) := by decide +kernel
theorem d_L_law_478 : decode code 478 = .ok (.aload_n 3, 1) := by decide +kernel
theorem d_L_law_479 : decode code 479 = .ok (.invokestatic 91, 3) := by decide +kernel
theorem d_L_law_482 : decode code 482 = .ok (.istore 5, 2) := by decide +kernel
theorem d_L_law_484 : decode code 484 = .ok (.aload_n 2, 1) := by decide +kernel
theorem d_L_law_485 : decode code 485 = .ok (.aload_n 0, 1) := by decide +kernel
theorem d_L_law_486 : decode code 486 = .ok (.iload 4, 2) := by decide +kernel
theorem d_L_law_488 : decode code 488 = .ok (.iconst 1, 1) := by decide +kernel
theorem d_L_law_489 : decode code 489 = .ok (.iadd, 1) := by decide +kernel
theorem d_L_law_490 : decode code 490 = .ok (.iaload, 1) := by decide +kernel
theorem d_L_law_491 : decode code 491 = .ok (.aload_n 0, 1) := by decide +kernel
theorem d_L_law_492 : decode code 492 = .ok (.iload 4, 2) := by decide +kernel
theorem d_L_law_494 : decode code 494 = .ok (.iconst 2, 1) := by decide +kernel
theorem d_L_law_495 : decode code 495 = .ok (.iadd, 1) := by decide +kernel
theorem d_L_law_496 : decode code 496 = .ok (.iaload, 1) := by decide +kernel
theorem d_L_law_497 : decode code 497 = .ok (.aload_n 0, 1) := by decide +kernel
theorem d_L_law_498 : decode code 498 = .ok (.iload 4, 2) := by decide +kernel
theorem d_L_law_500 : decode code 500 = .ok (.iconst 3, 1) := by decide +kernel
theorem d_L_law_501 : decode code 501 = .ok (.iadd, 1) := by decide +kernel
theorem d_L_law_502 : decode code 502 = .ok (.iaload, 1) := by decide +kernel
theorem d_L_law_503 : decode code 503 = .ok (.invokevirtual 93, 3) := by decide +kernel
theorem d_L_law_506 : decode code 506 = .ok (.istore 6, 2) := by decide +kernel
theorem d_L_law_508 : decode code 508 = .ok (.aload_n 2, 1) := by decide +kernel
theorem d_L_law_509 : decode code 509 = .ok (.invokevirtual 64, 3) := by decide +kernel
theorem d_L_law_512 : decode code 512 = .ok (.iload 5, 2) := by decide +kernel
theorem d_L_law_514 : decode code 514 = .ok (.if_icmp .eq 5, 3) := by decide +kernel
theorem d_L_law_517 : decode code 517 = .ok (.iconst 0, 1) := by decide +kernel
theorem d_L_law_518 : decode code 518 = .ok (.ireturn, 1) := by decide +kernel
theorem d_L_law_519 : decode code 519 = .ok (.iload 5, 2) := by decide +kernel
theorem d_L_law_521 : decode code 521 = .ok (.ifCond .ne 15, 3) := by decide +kernel
theorem d_L_law_524 : decode code 524 = .ok (.aload_n 3, 1) := by decide +kernel
theorem d_L_law_525 : decode code 525 = .ok (.iconst 0, 1) := by decide +kernel
theorem d_L_law_526 : decode code 526 = .ok (.laload, 1) := by decide +kernel
theorem d_L_law_527 : decode code 527 = .ok (.iload 6, 2) := by decide +kernel
theorem d_L_law_529 : decode code 529 = .ok (.i2l, 1) := by decide +kernel
theorem d_L_law_530 : decode code 530 = .ok (.lcmp, 1) := by decide +kernel
theorem d_L_law_531 : decode code 531 = .ok (.ifCond .eq 5, 3) := by decide +kernel
theorem d_L_law_534 : decode code 534 = .ok (.iconst 0, 1) := by decide +kernel
theorem d_L_law_535 : decode code 535 = .ok (.ireturn, 1) := by decide +kernel
theorem d_L_law_536 : decode code 536 = .ok (.goto 384, 3) := by decide +kernel
theorem d_L_law_539 : decode code 539 = .ok (.aload_n 1, 1) := by decide +kernel
theorem d_L_law_540 : decode code 540 = .ok (.aload_n 0, 1) := by decide +kernel
theorem d_L_law_541 : decode code 541 = .ok (.iload 4, 2) := by decide +kernel
theorem d_L_law_543 : decode code 543 = .ok (.iconst 1, 1) := by decide +kernel
theorem d_L_law_544 : decode code 544 = .ok (.iadd, 1) := by decide +kernel
theorem d_L_law_545 : decode code 545 = .ok (.iaload, 1) := by decide +kernel
theorem d_L_law_546 : decode code 546 = .ok (.aload_n 0, 1) := by decide +kernel
theorem d_L_law_547 : decode code 547 = .ok (.iload 4, 2) := by decide +kernel
theorem d_L_law_549 : decode code 549 = .ok (.iconst 2, 1) := by decide +kernel
theorem d_L_law_550 : decode code 550 = .ok (.iadd, 1) := by decide +kernel
theorem d_L_law_551 : decode code 551 = .ok (.iaload, 1) := by decide +kernel
theorem d_L_law_552 : decode code 552 = .ok (.invokestatic 94, 3) := by decide +kernel
theorem d_L_law_555 : decode code 555 = .ok (.istore 5, 2) := by decide +kernel
theorem d_L_law_557 : decode code 557 = .ok (.aload_n 2, 1) := by decide +kernel
theorem d_L_law_558 : decode code 558 = .ok (.aload_n 0, 1) := by decide +kernel
theorem d_L_law_559 : decode code 559 = .ok (.iload 4, 2) := by decide +kernel
theorem d_L_law_561 : decode code 561 = .ok (.iconst 1, 1) := by decide +kernel
theorem d_L_law_562 : decode code 562 = .ok (.iadd, 1) := by decide +kernel
theorem d_L_law_563 : decode code 563 = .ok (.iaload, 1) := by decide +kernel
theorem d_L_law_564 : decode code 564 = .ok (.aload_n 0, 1) := by decide +kernel
theorem d_L_law_565 : decode code 565 = .ok (.iload 4, 2) := by decide +kernel
theorem d_L_law_567 : decode code 567 = .ok (.iconst 2, 1) := by decide +kernel
theorem d_L_law_568 : decode code 568 = .ok (.iadd, 1) := by decide +kernel
theorem d_L_law_569 : decode code 569 = .ok (.iaload, 1) := by decide +kernel
theorem d_L_law_570 : decode code 570 = .ok (.invokevirtual 96, 3) := by decide +kernel
theorem d_L_law_573 : decode code 573 = .ok (.aload_n 2, 1) := by decide +kernel
theorem d_L_law_574 : decode code 574 = .ok (.invokevirtual 64, 3) := by decide +kernel
theorem d_L_law_577 : decode code 577 = .ok (.iload 5, 2) := by decide +kernel
theorem d_L_law_579 : decode code 579 = .ok (.if_icmp .eq 5, 3) := by decide +kernel
theorem d_L_law_582 : decode code 582 = .ok (.iconst 0, 1) := by decide +kernel
theorem d_L_law_583 : decode code 583 = .ok (.ireturn, 1) := by decide +kernel
theorem d_L_law_584 : decode code 584 = .ok (.goto 336, 3) := by decide +kernel
theorem d_L_law_587 : decode code 587 = .ok (.aload_n 1, 1) := by decide +kernel
theorem d_L_law_588 : decode code 588 = .ok (.aload_n 0, 1) := by decide +kernel
theorem d_L_law_589 : decode code 589 = .ok (.iload 4, 2) := by decide +kernel
theorem d_L_law_591 : decode code 591 = .ok (.iconst 1, 1) := by decide +kernel
theorem d_L_law_592 : decode code 592 = .ok (.iadd, 1) := by decide +kernel
theorem d_L_law_593 : decode code 593 = .ok (.iaload, 1) := by decide +kernel
theorem d_L_law_594 : decode code 594 = .ok (.aload_n 0, 1) := by decide +kernel
theorem d_L_law_595 : decode code 595 = .ok (.iload 4, 2) := by decide +kernel
theorem d_L_law_597 : decode code 597 = .ok (.iconst 2, 1) := by decide +kernel
theorem d_L_law_598 : decode code 598 = .ok (.iadd, 1) := by decide +kernel
theorem d_L_law_599 : decode code 599 = .ok (.iaload, 1) := by decide +kernel
theorem d_L_law_600 : decode code 600 = .ok (.aload_n 3, 1) := by decide +kernel
theorem d_L_law_601 : decode code 601 = .ok (.invokestatic 97, 3) := by decide +kernel
theorem d_L_law_604 : decode code 604 = .ok (.istore 5, 2) := by decide +kernel
theorem d_L_law_606 : decode code 606 = .ok (.aload_n 2, 1) := by decide +kernel
theorem d_L_law_607 : decode code 607 = .ok (.aload_n 0, 1) := by decide +kernel
theorem d_L_law_608 : decode code 608 = .ok (.iload 4, 2) := by decide +kernel
theorem d_L_law_610 : decode code 610 = .ok (.iconst 1, 1) := by decide +kernel
theorem d_L_law_611 : decode code 611 = .ok (.iadd, 1) := by decide +kernel
theorem d_L_law_612 : decode code 612 = .ok (.iaload, 1) := by decide +kernel
theorem d_L_law_613 : decode code 613 = .ok (.aload_n 0, 1) := by decide +kernel
theorem d_L_law_614 : decode code 614 = .ok (.iload 4, 2) := by decide +kernel
theorem d_L_law_616 : decode code 616 = .ok (.iconst 2, 1) := by decide +kernel
theorem d_L_law_617 : decode code 617 = .ok (.iadd, 1) := by decide +kernel
theorem d_L_law_618 : decode code 618 = .ok (.iaload, 1) := by decide +kernel
theorem d_L_law_619 : decode code 619 = .ok (.invokevirtual 100, 3) := by decide +kernel
theorem d_L_law_622 : decode code 622 = .ok (.istore 6, 2) := by decide +kernel
theorem d_L_law_624 : decode code 624 = .ok (.aload_n 2, 1) := by decide +kernel
theorem d_L_law_625 : decode code 625 = .ok (.invokevirtual 64, 3) := by decide +kernel
theorem d_L_law_628 : decode code 628 = .ok (.iload 5, 2) := by decide +kernel
theorem d_L_law_630 : decode code 630 = .ok (.if_icmp .eq 5, 3) := by decide +kernel
theorem d_L_law_633 : decode code 633 = .ok (.iconst 0, 1) := by decide +kernel
theorem d_L_law_634 : decode code 634 = .ok (.ireturn, 1) := by decide +kernel
theorem d_L_law_635 : decode code 635 = .ok (.iload 5, 2) := by decide +kernel
theorem d_L_law_637 : decode code 637 = .ok (.ifCond .ne 15, 3) := by decide +kernel
theorem d_L_law_640 : decode code 640 = .ok (.aload_n 3, 1) := by decide +kernel
theorem d_L_law_641 : decode code 641 = .ok (.iconst 0, 1) := by decide +kernel
theorem d_L_law_642 : decode code 642 = .ok (.laload, 1) := by decide +kernel
theorem d_L_law_643 : decode code 643 = .ok (.iload 6, 2) := by decide +kernel
theorem d_L_law_645 : decode code 645 = .ok (.i2l, 1) := by decide +kernel
theorem d_L_law_646 : decode code 646 = .ok (.lcmp, 1) := by decide +kernel
theorem d_L_law_647 : decode code 647 = .ok (.ifCond .eq 5, 3) := by decide +kernel
theorem d_L_law_650 : decode code 650 = .ok (.iconst 0, 1) := by decide +kernel
theorem d_L_law_651 : decode code 651 = .ok (.ireturn, 1) := by decide +kernel
theorem d_L_law_652 : decode code 652 = .ok (.goto 268, 3) := by decide +kernel
theorem d_L_law_655 : decode code 655 = .ok (.aload_n 1, 1) := by decide +kernel
theorem d_L_law_656 : decode code 656 = .ok (.aload_n 0, 1) := by decide +kernel
theorem d_L_law_657 : decode code 657 = .ok (.iload 4, 2) := by decide +kernel
theorem d_L_law_659 : decode code 659 = .ok (.iconst 1, 1) := by decide +kernel
theorem d_L_law_660 : decode code 660 = .ok (.iadd, 1) := by decide +kernel
theorem d_L_law_661 : decode code 661 = .ok (.iaload, 1) := by decide +kernel
theorem d_L_law_662 : decode code 662 = .ok (.invokestatic 101, 3) := by decide +kernel
theorem d_L_law_665 : decode code 665 = .ok (.istore 5, 2) := by decide +kernel
theorem d_L_law_667 : decode code 667 = .ok (.aload_n 2, 1) := by decide +kernel
theorem d_L_law_668 : decode code 668 = .ok (.aload_n 0, 1) := by decide +kernel
theorem d_L_law_669 : decode code 669 = .ok (.iload 4, 2) := by decide +kernel
theorem d_L_law_671 : decode code 671 = .ok (.iconst 1, 1) := by decide +kernel
theorem d_L_law_672 : decode code 672 = .ok (.iadd, 1) := by decide +kernel
theorem d_L_law_673 : decode code 673 = .ok (.iaload, 1) := by decide +kernel
theorem d_L_law_674 : decode code 674 = .ok (.invokevirtual 104, 3) := by decide +kernel
theorem d_L_law_677 : decode code 677 = .ok (.aload_n 2, 1) := by decide +kernel
theorem d_L_law_678 : decode code 678 = .ok (.invokevirtual 64, 3) := by decide +kernel
theorem d_L_law_681 : decode code 681 = .ok (.iload 5, 2) := by decide +kernel
theorem d_L_law_683 : decode code 683 = .ok (.if_icmp .eq 5, 3) := by decide +kernel
theorem d_L_law_686 : decode code 686 = .ok (.iconst 0, 1) := by decide +kernel
theorem d_L_law_687 : decode code 687 = .ok (.ireturn, 1) := by decide +kernel
theorem d_L_law_688 : decode code 688 = .ok (.goto 232, 3) := by decide +kernel
theorem d_L_law_691 : decode code 691 = .ok (.aload_n 1, 1) := by decide +kernel
theorem d_L_law_692 : decode code 692 = .ok (.aload_n 0, 1) := by decide +kernel
theorem d_L_law_693 : decode code 693 = .ok (.iload 4, 2) := by decide +kernel
theorem d_L_law_695 : decode code 695 = .ok (.iconst 1, 1) := by decide +kernel
theorem d_L_law_696 : decode code 696 = .ok (.iadd, 1) := by decide +kernel
theorem d_L_law_697 : decode code 697 = .ok (.iaload, 1) := by decide +kernel
theorem d_L_law_698 : decode code 698 = .ok (.aload_n 0, 1) := by decide +kernel
theorem d_L_law_699 : decode code 699 = .ok (.iload 4, 2) := by decide +kernel
theorem d_L_law_701 : decode code 701 = .ok (.iconst 2, 1) := by decide +kernel
theorem d_L_law_702 : decode code 702 = .ok (.iadd, 1) := by decide +kernel
theorem d_L_law_703 : decode code 703 = .ok (.iaload, 1) := by decide +kernel
theorem d_L_law_704 : decode code 704 = .ok (.aload_n 3, 1) := by decide +kernel
theorem d_L_law_705 : decode code 705 = .ok (.invokestatic 105, 3) := by decide +kernel
theorem d_L_law_708 : decode code 708 = .ok (.istore 5, 2) := by decide +kernel
theorem d_L_law_710 : decode code 710 = .ok (.aload_n 2, 1) := by decide +kernel
theorem d_L_law_711 : decode code 711 = .ok (.aload_n 0, 1) := by decide +kernel
theorem d_L_law_712 : decode code 712 = .ok (.iload 4, 2) := by decide +kernel
theorem d_L_law_714 : decode code 714 = .ok (.iconst 1, 1) := by decide +kernel
theorem d_L_law_715 : decode code 715 = .ok (.iadd, 1) := by decide +kernel
theorem d_L_law_716 : decode code 716 = .ok (.iaload, 1) := by decide +kernel
theorem d_L_law_717 : decode code 717 = .ok (.aload_n 0, 1) := by decide +kernel
theorem d_L_law_718 : decode code 718 = .ok (.iload 4, 2) := by decide +kernel
theorem d_L_law_720 : decode code 720 = .ok (.iconst 2, 1) := by decide +kernel
theorem d_L_law_721 : decode code 721 = .ok (.iadd, 1) := by decide +kernel
theorem d_L_law_722 : decode code 722 = .ok (.iaload, 1) := by decide +kernel
theorem d_L_law_723 : decode code 723 = .ok (.invokevirtual 107, 3) := by decide +kernel
theorem d_L_law_726 : decode code 726 = .ok (.istore 6, 2) := by decide +kernel
theorem d_L_law_728 : decode code 728 = .ok (.aload_n 2, 1) := by decide +kernel
theorem d_L_law_729 : decode code 729 = .ok (.invokevirtual 64, 3) := by decide +kernel
theorem d_L_law_732 : decode code 732 = .ok (.iload 5, 2) := by decide +kernel
theorem d_L_law_734 : decode code 734 = .ok (.if_icmp .eq 5, 3) := by decide +kernel
theorem d_L_law_737 : decode code 737 = .ok (.iconst 0, 1) := by decide +kernel
theorem d_L_law_738 : decode code 738 = .ok (.ireturn, 1) := by decide +kernel
theorem d_L_law_739 : decode code 739 = .ok (.iload 5, 2) := by decide +kernel
theorem d_L_law_741 : decode code 741 = .ok (.ifCond .ne 15, 3) := by decide +kernel
theorem d_L_law_744 : decode code 744 = .ok (.aload_n 3, 1) := by decide +kernel
theorem d_L_law_745 : decode code 745 = .ok (.iconst 0, 1) := by decide +kernel
theorem d_L_law_746 : decode code 746 = .ok (.laload, 1) := by decide +kernel
theorem d_L_law_747 : decode code 747 = .ok (.iload 6, 2) := by decide +kernel
theorem d_L_law_749 : decode code 749 = .ok (.i2l, 1) := by decide +kernel
theorem d_L_law_750 : decode code 750 = .ok (.lcmp, 1) := by decide +kernel
theorem d_L_law_751 : decode code 751 = .ok (.ifCond .eq 5, 3) := by decide +kernel
theorem d_L_law_754 : decode code 754 = .ok (.iconst 0, 1) := by decide +kernel
theorem d_L_law_755 : decode code 755 = .ok (.ireturn, 1) := by decide +kernel
theorem d_L_law_756 : decode code 756 = .ok (.goto 164, 3) := by decide +kernel
theorem d_L_law_759 : decode code 759 = .ok (.aload_n 1, 1) := by decide +kernel
theorem d_L_law_760 : decode code 760 = .ok (.invokevirtual 108, 3) := by decide +kernel
theorem d_L_law_763 : decode code 763 = .ok (.aload_n 2, 1) := by decide +kernel
theorem d_L_law_764 : decode code 764 = .ok (.invokevirtual 111, 3) := by decide +kernel
theorem d_L_law_767 : decode code 767 = .ok (.if_icmp .eq 153, 3) := by decide +kernel
theorem d_L_law_770 : decode code 770 = .ok (.iconst 0, 1) := by decide +kernel
theorem d_L_law_771 : decode code 771 = .ok (.ireturn, 1) := by decide +kernel
theorem d_L_law_772 : decode code 772 = .ok (.aload_n 1, 1) := by decide +kernel
theorem d_L_law_773 : decode code 773 = .ok (.aload_n 0, 1) := by decide +kernel
theorem d_L_law_774 : decode code 774 = .ok (.iload 4, 2) := by decide +kernel
theorem d_L_law_776 : decode code 776 = .ok (.iconst 1, 1) := by decide +kernel
theorem d_L_law_777 : decode code 777 = .ok (.iadd, 1) := by decide +kernel
theorem d_L_law_778 : decode code 778 = .ok (.iaload, 1) := by decide +kernel
theorem d_L_law_779 : decode code 779 = .ok (.aload_n 0, 1) := by decide +kernel
theorem d_L_law_780 : decode code 780 = .ok (.iload 4, 2) := by decide +kernel
theorem d_L_law_782 : decode code 782 = .ok (.iconst 2, 1) := by decide +kernel
theorem d_L_law_783 : decode code 783 = .ok (.iadd, 1) := by decide +kernel
theorem d_L_law_784 : decode code 784 = .ok (.iaload, 1) := by decide +kernel
theorem d_L_law_785 : decode code 785 = .ok (.aload_n 0, 1) := by decide +kernel
theorem d_L_law_786 : decode code 786 = .ok (.iload 4, 2) := by decide +kernel
theorem d_L_law_788 : decode code 788 = .ok (.iconst 3, 1) := by decide +kernel
theorem d_L_law_789 : decode code 789 = .ok (.iadd, 1) := by decide +kernel
theorem d_L_law_790 : decode code 790 = .ok (.iaload, 1) := by decide +kernel
theorem d_L_law_791 : decode code 791 = .ok (.aload_n 3, 1) := by decide +kernel
theorem d_L_law_792 : decode code 792 = .ok (.invokestatic 112, 3) := by decide +kernel
theorem d_L_law_795 : decode code 795 = .ok (.istore 5, 2) := by decide +kernel
theorem d_L_law_797 : decode code 797 = .ok (.aload_n 2, 1) := by decide +kernel
theorem d_L_law_798 : decode code 798 = .ok (.aload_n 0, 1) := by decide +kernel
theorem d_L_law_799 : decode code 799 = .ok (.iload 4, 2) := by decide +kernel
theorem d_L_law_801 : decode code 801 = .ok (.iconst 1, 1) := by decide +kernel
theorem d_L_law_802 : decode code 802 = .ok (.iadd, 1) := by decide +kernel
theorem d_L_law_803 : decode code 803 = .ok (.iaload, 1) := by decide +kernel
theorem d_L_law_804 : decode code 804 = .ok (.aload_n 0, 1) := by decide +kernel
theorem d_L_law_805 : decode code 805 = .ok (.iload 4, 2) := by decide +kernel
theorem d_L_law_807 : decode code 807 = .ok (.iconst 2, 1) := by decide +kernel
theorem d_L_law_808 : decode code 808 = .ok (.iadd, 1) := by decide +kernel
theorem d_L_law_809 : decode code 809 = .ok (.iaload, 1) := by decide +kernel
theorem d_L_law_810 : decode code 810 = .ok (.aload_n 0, 1) := by decide +kernel
theorem d_L_law_811 : decode code 811 = .ok (.iload 4, 2) := by decide +kernel
theorem d_L_law_813 : decode code 813 = .ok (.iconst 3, 1) := by decide +kernel
theorem d_L_law_814 : decode code 814 = .ok (.iadd, 1) := by decide +kernel
theorem d_L_law_815 : decode code 815 = .ok (.iaload, 1) := by decide +kernel
theorem d_L_law_816 : decode code 816 = .ok (.invokevirtual 114, 3) := by decide +kernel
theorem d_L_law_819 : decode code 819 = .ok (.istore 6, 2) := by decide +kernel
theorem d_L_law_821 : decode code 821 = .ok (.aload_n 2, 1) := by decide +kernel
theorem d_L_law_822 : decode code 822 = .ok (.invokevirtual 64, 3) := by decide +kernel
theorem d_L_law_825 : decode code 825 = .ok (.iload 5, 2) := by decide +kernel
theorem d_L_law_827 : decode code 827 = .ok (.if_icmp .eq 5, 3) := by decide +kernel
theorem d_L_law_830 : decode code 830 = .ok (.iconst 0, 1) := by decide +kernel
theorem d_L_law_831 : decode code 831 = .ok (.ireturn, 1) := by decide +kernel
theorem d_L_law_832 : decode code 832 = .ok (.iload 5, 2) := by decide +kernel
theorem d_L_law_834 : decode code 834 = .ok (.ifCond .ne 15, 3) := by decide +kernel
theorem d_L_law_837 : decode code 837 = .ok (.aload_n 3, 1) := by decide +kernel
theorem d_L_law_838 : decode code 838 = .ok (.iconst 0, 1) := by decide +kernel
theorem d_L_law_839 : decode code 839 = .ok (.laload, 1) := by decide +kernel
theorem d_L_law_840 : decode code 840 = .ok (.iload 6, 2) := by decide +kernel
theorem d_L_law_842 : decode code 842 = .ok (.i2l, 1) := by decide +kernel
theorem d_L_law_843 : decode code 843 = .ok (.lcmp, 1) := by decide +kernel
theorem d_L_law_844 : decode code 844 = .ok (.ifCond .eq 5, 3) := by decide +kernel
theorem d_L_law_847 : decode code 847 = .ok (.iconst 0, 1) := by decide +kernel
theorem d_L_law_848 : decode code 848 = .ok (.ireturn, 1) := by decide +kernel
theorem d_L_law_849 : decode code 849 = .ok (.goto 71, 3) := by decide +kernel
theorem d_L_law_852 : decode code 852 = .ok (.aload_n 1, 1) := by decide +kernel
theorem d_L_law_853 : decode code 853 = .ok (.aload_n 0, 1) := by decide +kernel
theorem d_L_law_854 : decode code 854 = .ok (.iload 4, 2) := by decide +kernel
theorem d_L_law_856 : decode code 856 = .ok (.iconst 1, 1) := by decide +kernel
theorem d_L_law_857 : decode code 857 = .ok (.iadd, 1) := by decide +kernel
theorem d_L_law_858 : decode code 858 = .ok (.iaload, 1) := by decide +kernel
theorem d_L_law_859 : decode code 859 = .ok (.aload_n 0, 1) := by decide +kernel
theorem d_L_law_860 : decode code 860 = .ok (.iload 4, 2) := by decide +kernel
theorem d_L_law_862 : decode code 862 = .ok (.iconst 2, 1) := by decide +kernel
theorem d_L_law_863 : decode code 863 = .ok (.iadd, 1) := by decide +kernel
theorem d_L_law_864 : decode code 864 = .ok (.iaload, 1) := by decide +kernel
theorem d_L_law_865 : decode code 865 = .ok (.aload_n 3, 1) := by decide +kernel
theorem d_L_law_866 : decode code 866 = .ok (.invokestatic 115, 3) := by decide +kernel
theorem d_L_law_869 : decode code 869 = .ok (.istore 5, 2) := by decide +kernel
theorem d_L_law_871 : decode code 871 = .ok (.aload_n 2, 1) := by decide +kernel
theorem d_L_law_872 : decode code 872 = .ok (.aload_n 0, 1) := by decide +kernel
theorem d_L_law_873 : decode code 873 = .ok (.iload 4, 2) := by decide +kernel
theorem d_L_law_875 : decode code 875 = .ok (.iconst 1, 1) := by decide +kernel
theorem d_L_law_876 : decode code 876 = .ok (.iadd, 1) := by decide +kernel
theorem d_L_law_877 : decode code 877 = .ok (.iaload, 1) := by decide +kernel
theorem d_L_law_878 : decode code 878 = .ok (.aload_n 0, 1) := by decide +kernel
theorem d_L_law_879 : decode code 879 = .ok (.iload 4, 2) := by decide +kernel
theorem d_L_law_881 : decode code 881 = .ok (.iconst 2, 1) := by decide +kernel
theorem d_L_law_882 : decode code 882 = .ok (.iadd, 1) := by decide +kernel
theorem d_L_law_883 : decode code 883 = .ok (.iaload, 1) := by decide +kernel
theorem d_L_law_884 : decode code 884 = .ok (.invokevirtual 117, 3) := by decide +kernel
theorem d_L_law_887 : decode code 887 = .ok (.istore 6, 2) := by decide +kernel
theorem d_L_law_889 : decode code 889 = .ok (.aload_n 2, 1) := by decide +kernel
theorem d_L_law_890 : decode code 890 = .ok (.invokevirtual 64, 3) := by decide +kernel
theorem d_L_law_893 : decode code 893 = .ok (.iload 5, 2) := by decide +kernel
theorem d_L_law_895 : decode code 895 = .ok (.if_icmp .eq 5, 3) := by decide +kernel
theorem d_L_law_898 : decode code 898 = .ok (.iconst 0, 1) := by decide +kernel
theorem d_L_law_899 : decode code 899 = .ok (.ireturn, 1) := by decide +kernel
theorem d_L_law_900 : decode code 900 = .ok (.iload 5, 2) := by decide +kernel
theorem d_L_law_902 : decode code 902 = .ok (.ifCond .ne 15, 3) := by decide +kernel
theorem d_L_law_905 : decode code 905 = .ok (.aload_n 3, 1) := by decide +kernel
theorem d_L_law_906 : decode code 906 = .ok (.iconst 0, 1) := by decide +kernel
theorem d_L_law_907 : decode code 907 = .ok (.laload, 1) := by decide +kernel
theorem d_L_law_908 : decode code 908 = .ok (.iload 6, 2) := by decide +kernel
theorem d_L_law_910 : decode code 910 = .ok (.i2l, 1) := by decide +kernel
theorem d_L_law_911 : decode code 911 = .ok (.lcmp, 1) := by decide +kernel
theorem d_L_law_912 : decode code 912 = .ok (.ifCond .eq 5, 3) := by decide +kernel
theorem d_L_law_915 : decode code 915 = .ok (.iconst 0, 1) := by decide +kernel
theorem d_L_law_916 : decode code 916 = .ok (.ireturn, 1) := by decide +kernel
theorem d_L_law_917 : decode code 917 = .ok (.goto 3, 3) := by decide +kernel
theorem d_L_law_920 : decode code 920 = .ok (.iinc 4 4, 3) := by decide +kernel
theorem d_L_law_923 : decode code 923 = .ok (.goto (-900), 3) := by decide +kernel
theorem d_L_law_926 : decode code 926 = .ok (.iconst 1, 1) := by decide +kernel
theorem d_L_law_927 : decode code 927 = .ok (.ireturn, 1) := by decide +kernel
