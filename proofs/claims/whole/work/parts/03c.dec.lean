theorem d_U_init_0 : decode b_U_init 0 = .ok (.aload_n 0, 1) := by decide +kernel
theorem d_U_init_1 : decode b_U_init 1 = .ok (.invokespecial 3, 3) := by decide +kernel
theorem d_U_init_4 : decode b_U_init 4 = .ok (.aload_n 0, 1) := by decide +kernel
theorem d_U_init_5 : decode b_U_init 5 = .ok (.new 9, 3) := by decide +kernel
theorem d_U_init_8 : decode b_U_init 8 = .ok (.dup, 1) := by decide +kernel
theorem d_U_init_9 : decode b_U_init 9 = .ok (.sipush 256, 3) := by decide +kernel
theorem d_U_init_12 : decode b_U_init 12 = .ok (.invokespecial 11, 3) := by decide +kernel
theorem d_U_init_15 : decode b_U_init 15 = .ok (.putfield 14, 3) := by decide +kernel
theorem d_U_init_18 : decode b_U_init 18 = .ok (.aload_n 0, 1) := by decide +kernel
theorem d_U_init_19 : decode b_U_init 19 = .ok (.bipush 32, 2) := by decide +kernel
theorem d_U_init_21 : decode b_U_init 21 = .ok (.anewarray 18, 3) := by decide +kernel
theorem d_U_init_24 : decode b_U_init 24 = .ok (.putfield 20, 3) := by decide +kernel
theorem d_U_init_27 : decode b_U_init 27 = .ok (.iconst 0, 1) := by decide +kernel
theorem d_U_init_28 : decode b_U_init 28 = .ok (.istore_n 1, 1) := by decide +kernel
theorem d_U_init_29 : decode b_U_init 29 = .ok (.iload_n 1, 1) := by decide +kernel
theorem d_U_init_30 : decode b_U_init 30 = .ok (.bipush 32, 2) := by decide +kernel
theorem d_U_init_32 : decode b_U_init 32 = .ok (.if_icmp .ge 22, 3) := by decide +kernel
theorem d_U_init_35 : decode b_U_init 35 = .ok (.aload_n 0, 1) := by decide +kernel
theorem d_U_init_36 : decode b_U_init 36 = .ok (.getfield 20, 3) := by decide +kernel
theorem d_U_init_39 : decode b_U_init 39 = .ok (.iload_n 1, 1) := by decide +kernel
theorem d_U_init_40 : decode b_U_init 40 = .ok (.new 18, 3) := by decide +kernel
theorem d_U_init_43 : decode b_U_init 43 = .ok (.dup, 1) := by decide +kernel
theorem d_U_init_44 : decode b_U_init 44 = .ok (.invokespecial 24, 3) := by decide +kernel
theorem d_U_init_47 : decode b_U_init 47 = .ok (.aastore, 1) := by decide +kernel
theorem d_U_init_48 : decode b_U_init 48 = .ok (.iinc 1 1, 3) := by decide +kernel
theorem d_U_init_51 : decode b_U_init 51 = .ok (.goto (-22), 3) := by decide +kernel
theorem d_U_init_54 : decode b_U_init 54 = .ok (.aload_n 0, 1) := by decide +kernel
theorem d_U_init_55 : decode b_U_init 55 = .ok (.new 25, 3) := by decide +kernel
theorem d_U_init_58 : decode b_U_init 58 = .ok (.dup, 1) := by decide +kernel
theorem d_U_init_59 : decode b_U_init 59 = .ok (.invokespecial 27, 3) := by decide +kernel
theorem d_U_init_62 : decode b_U_init 62 = .ok (.putfield 28, 3) := by decide +kernel
theorem d_U_init_65 : decode b_U_init 65 = .ok (.aload_n 0, 1) := by decide +kernel
theorem d_U_init_66 : decode b_U_init 66 = .ok (.new 32, 3) := by decide +kernel
theorem d_U_init_69 : decode b_U_init 69 = .ok (.dup, 1) := by decide +kernel
theorem d_U_init_70 : decode b_U_init 70 = .ok (.aload_n 0, 1) := by decide +kernel
theorem d_U_init_71 : decode b_U_init 71 = .ok (.getfield 20, 3) := by decide +kernel
theorem d_U_init_74 : decode b_U_init 74 = .ok (.invokespecial 34, 3) := by decide +kernel
theorem d_U_init_77 : decode b_U_init 77 = .ok (.putfield 37, 3) := by decide +kernel
theorem d_U_init_80 : decode b_U_init 80 = .ok (.aload_n 0, 1) := by decide +kernel
theorem d_U_init_81 : decode b_U_init 81 = .ok (.new 41, 3) := by decide +kernel
theorem d_U_init_84 : decode b_U_init 84 = .ok (.dup, 1) := by decide +kernel
theorem d_U_init_85 : decode b_U_init 85 = .ok (.aload_n 0, 1) := by decide +kernel
theorem d_U_init_86 : decode b_U_init 86 = .ok (.getfield 28, 3) := by decide +kernel
theorem d_U_init_89 : decode b_U_init 89 = .ok (.aload_n 0, 1) := by decide +kernel
theorem d_U_init_90 : decode b_U_init 90 = .ok (.getfield 37, 3) := by decide +kernel
theorem d_U_init_93 : decode b_U_init 93 = .ok (.aload_n 0, 1) := by decide +kernel
theorem d_U_init_94 : decode b_U_init 94 = .ok (.getfield 14, 3) := by decide +kernel
theorem d_U_init_97 : decode b_U_init 97 = .ok (.invokespecial 43, 3) := by decide +kernel
theorem d_U_init_100 : decode b_U_init 100 = .ok (.putfield 46, 3) := by decide +kernel
theorem d_U_init_103 : decode b_U_init 103 = .ok (.aload_n 0, 1) := by decide +kernel
theorem d_U_init_104 : decode b_U_init 104 = .ok (.new 50, 3) := by decide +kernel
theorem d_U_init_107 : decode b_U_init 107 = .ok (.dup, 1) := by decide +kernel
theorem d_U_init_108 : decode b_U_init 108 = .ok (.aload_n 0, 1) := by decide +kernel
theorem d_U_init_109 : decode b_U_init 109 = .ok (.getfield 20, 3) := by decide +kernel
theorem d_U_init_112 : decode b_U_init 112 = .ok (.invokespecial 52, 3) := by decide +kernel
theorem d_U_init_115 : decode b_U_init 115 = .ok (.putfield 53, 3) := by decide +kernel
theorem d_U_init_118 : decode b_U_init 118 = .ok (.return_, 1) := by decide +kernel
theorem d_U_command_0 : decode b_U_command 0 = .ok (.iload_n 1, 1) := by decide +kernel
theorem d_U_command_1 : decode b_U_command 1 = .ok (.iconst (-1), 1) := by decide +kernel
theorem d_U_command_2 : decode b_U_command 2 = .ok (.bipush 11, 2) := by decide +kernel
theorem d_U_command_4 : decode b_U_command 4 = .ok (.invokestatic 57, 3) := by decide +kernel
theorem d_U_command_7 : decode b_U_command 7 = .ok (.invokestatic 61, 3) := by decide +kernel
theorem d_U_command_10 : decode b_U_command 10 = .ok (.iload_n 1, 1) := by decide +kernel
theorem d_U_command_11 : decode b_U_command 11 = .ok (.iconst (-1), 1) := by decide +kernel
theorem d_U_command_12 : decode b_U_command 12 = .ok (.if_icmp .ne 13, 3) := by decide +kernel
theorem d_U_command_15 : decode b_U_command 15 = .ok (.aload_n 0, 1) := by decide +kernel
theorem d_U_command_16 : decode b_U_command 16 = .ok (.getfield 28, 3) := by decide +kernel
theorem d_U_command_19 : decode b_U_command 19 = .ok (.invokevirtual 65, 3) := by decide +kernel
theorem d_U_command_22 : decode b_U_command 22 = .ok (.goto 31, 3) := by decide +kernel
theorem d_U_command_25 : decode b_U_command 25 = .ok (.aload_n 0, 1) := by decide +kernel
theorem d_U_command_26 : decode b_U_command 26 = .ok (.getfield 28, 3) := by decide +kernel
theorem d_U_command_29 : decode b_U_command 29 = .ok (.invokevirtual 68, 3) := by decide +kernel
theorem d_U_command_32 : decode b_U_command 32 = .ok (.ifCond .ne 7, 3) := by decide +kernel
theorem d_U_command_35 : decode b_U_command 35 = .ok (.iconst 1, 1) := by decide +kernel
theorem d_U_command_36 : decode b_U_command 36 = .ok (.goto 4, 3) := by decide +kernel
theorem d_U_command_39 : decode b_U_command 39 = .ok (.iconst 0, 1) := by decide +kernel
theorem d_U_command_40 : decode b_U_command 40 = .ok (.invokestatic 72, 3) := by decide +kernel
theorem d_U_command_43 : decode b_U_command 43 = .ok (.aload_n 0, 1) := by decide +kernel
theorem d_U_command_44 : decode b_U_command 44 = .ok (.getfield 28, 3) := by decide +kernel
theorem d_U_command_47 : decode b_U_command 47 = .ok (.iload_n 1, 1) := by decide +kernel
theorem d_U_command_48 : decode b_U_command 48 = .ok (.iload_n 2, 1) := by decide +kernel
theorem d_U_command_49 : decode b_U_command 49 = .ok (.iload_n 3, 1) := by decide +kernel
theorem d_U_command_50 : decode b_U_command 50 = .ok (.invokevirtual 75, 3) := by decide +kernel
theorem d_U_command_53 : decode b_U_command 53 = .ok (.aload_n 0, 1) := by decide +kernel
theorem d_U_command_54 : decode b_U_command 54 = .ok (.getfield 28, 3) := by decide +kernel
theorem d_U_command_57 : decode b_U_command 57 = .ok (.getfield 79, 3) := by decide +kernel
theorem d_U_command_60 : decode b_U_command 60 = .ok (.ireturn, 1) := by decide +kernel
theorem d_U_poke_0 : decode b_U_poke 0 = .ok (.iload_n 1, 1) := by decide +kernel
theorem d_U_poke_1 : decode b_U_poke 1 = .ok (.iconst 0, 1) := by decide +kernel
theorem d_U_poke_2 : decode b_U_poke 2 = .ok (.sipush 255, 3) := by decide +kernel
theorem d_U_poke_5 : decode b_U_poke 5 = .ok (.invokestatic 57, 3) := by decide +kernel
theorem d_U_poke_8 : decode b_U_poke 8 = .ok (.invokestatic 61, 3) := by decide +kernel
theorem d_U_poke_11 : decode b_U_poke 11 = .ok (.aload_n 0, 1) := by decide +kernel
theorem d_U_poke_12 : decode b_U_poke 12 = .ok (.getfield 14, 3) := by decide +kernel
theorem d_U_poke_15 : decode b_U_poke 15 = .ok (.iload_n 1, 1) := by decide +kernel
theorem d_U_poke_16 : decode b_U_poke 16 = .ok (.iload_n 2, 1) := by decide +kernel
theorem d_U_poke_17 : decode b_U_poke 17 = .ok (.invokevirtual 83, 3) := by decide +kernel
theorem d_U_poke_20 : decode b_U_poke 20 = .ok (.return_, 1) := by decide +kernel
theorem d_U_peek_0 : decode b_U_peek 0 = .ok (.iload_n 1, 1) := by decide +kernel
theorem d_U_peek_1 : decode b_U_peek 1 = .ok (.iconst 0, 1) := by decide +kernel
theorem d_U_peek_2 : decode b_U_peek 2 = .ok (.sipush 255, 3) := by decide +kernel
theorem d_U_peek_5 : decode b_U_peek 5 = .ok (.invokestatic 57, 3) := by decide +kernel
theorem d_U_peek_8 : decode b_U_peek 8 = .ok (.invokestatic 61, 3) := by decide +kernel
theorem d_U_peek_11 : decode b_U_peek 11 = .ok (.aload_n 0, 1) := by decide +kernel
theorem d_U_peek_12 : decode b_U_peek 12 = .ok (.getfield 14, 3) := by decide +kernel
theorem d_U_peek_15 : decode b_U_peek 15 = .ok (.iload_n 1, 1) := by decide +kernel
theorem d_U_peek_16 : decode b_U_peek 16 = .ok (.invokevirtual 87, 3) := by decide +kernel
theorem d_U_peek_19 : decode b_U_peek 19 = .ok (.ireturn, 1) := by decide +kernel
theorem d_U_start_0 : decode b_U_start 0 = .ok (.aload_n 0, 1) := by decide +kernel
theorem d_U_start_1 : decode b_U_start 1 = .ok (.getfield 46, 3) := by decide +kernel
theorem d_U_start_4 : decode b_U_start 4 = .ok (.invokevirtual 91, 3) := by decide +kernel
theorem d_U_start_7 : decode b_U_start 7 = .ok (.ireturn, 1) := by decide +kernel
theorem d_U_look_0 : decode b_U_look 0 = .ok (.iload_n 1, 1) := by decide +kernel
theorem d_U_look_1 : decode b_U_look 1 = .ok (.iconst 0, 1) := by decide +kernel
theorem d_U_look_2 : decode b_U_look 2 = .ok (.iconst 5, 1) := by decide +kernel
theorem d_U_look_3 : decode b_U_look 3 = .ok (.invokestatic 57, 3) := by decide +kernel
theorem d_U_look_6 : decode b_U_look 6 = .ok (.invokestatic 61, 3) := by decide +kernel
theorem d_U_look_9 : decode b_U_look 9 = .ok (.iload_n 1, 1) := by decide +kernel
theorem d_U_look_10 : decode b_U_look 10 = .ok (.tableswitch 74 0 4 #[34, 42, 50, 58, 66], 34) := by decide +kernel
theorem d_U_look_44 : decode b_U_look 44 = .ok (.aload_n 0, 1) := by decide +kernel
theorem d_U_look_45 : decode b_U_look 45 = .ok (.getfield 46, 3) := by decide +kernel
theorem d_U_look_48 : decode b_U_look 48 = .ok (.getfield 95, 3) := by decide +kernel
theorem d_U_look_51 : decode b_U_look 51 = .ok (.ireturn, 1) := by decide +kernel
theorem d_U_look_52 : decode b_U_look 52 = .ok (.aload_n 0, 1) := by decide +kernel
theorem d_U_look_53 : decode b_U_look 53 = .ok (.getfield 46, 3) := by decide +kernel
theorem d_U_look_56 : decode b_U_look 56 = .ok (.getfield 98, 3) := by decide +kernel
theorem d_U_look_59 : decode b_U_look 59 = .ok (.ireturn, 1) := by decide +kernel
theorem d_U_look_60 : decode b_U_look 60 = .ok (.aload_n 0, 1) := by decide +kernel
theorem d_U_look_61 : decode b_U_look 61 = .ok (.getfield 46, 3) := by decide +kernel
theorem d_U_look_64 : decode b_U_look 64 = .ok (.getfield 101, 3) := by decide +kernel
theorem d_U_look_67 : decode b_U_look 67 = .ok (.ireturn, 1) := by decide +kernel
theorem d_U_look_68 : decode b_U_look 68 = .ok (.aload_n 0, 1) := by decide +kernel
theorem d_U_look_69 : decode b_U_look 69 = .ok (.getfield 46, 3) := by decide +kernel
theorem d_U_look_72 : decode b_U_look 72 = .ok (.invokevirtual 104, 3) := by decide +kernel
theorem d_U_look_75 : decode b_U_look 75 = .ok (.ireturn, 1) := by decide +kernel
theorem d_U_look_76 : decode b_U_look 76 = .ok (.aload_n 0, 1) := by decide +kernel
theorem d_U_look_77 : decode b_U_look 77 = .ok (.getfield 37, 3) := by decide +kernel
theorem d_U_look_80 : decode b_U_look 80 = .ok (.getfield 107, 3) := by decide +kernel
theorem d_U_look_83 : decode b_U_look 83 = .ok (.ireturn, 1) := by decide +kernel
theorem d_U_look_84 : decode b_U_look 84 = .ok (.aload_n 0, 1) := by decide +kernel
theorem d_U_look_85 : decode b_U_look 85 = .ok (.getfield 46, 3) := by decide +kernel
theorem d_U_look_88 : decode b_U_look 88 = .ok (.getfield 110, 3) := by decide +kernel
theorem d_U_look_91 : decode b_U_look 91 = .ok (.ireturn, 1) := by decide +kernel
theorem d_U_clock_0 : decode b_U_clock 0 = .ok (.aload_n 0, 1) := by decide +kernel
theorem d_U_clock_1 : decode b_U_clock 1 = .ok (.getfield 37, 3) := by decide +kernel
theorem d_U_clock_4 : decode b_U_clock 4 = .ok (.getfield 113, 3) := by decide +kernel
theorem d_U_clock_7 : decode b_U_clock 7 = .ok (.lreturn, 1) := by decide +kernel
theorem d_U_record_0 : decode b_U_record 0 = .ok (.iload_n 1, 1) := by decide +kernel
theorem d_U_record_1 : decode b_U_record 1 = .ok (.iconst 0, 1) := by decide +kernel
theorem d_U_record_2 : decode b_U_record 2 = .ok (.bipush 31, 2) := by decide +kernel
theorem d_U_record_4 : decode b_U_record 4 = .ok (.invokestatic 57, 3) := by decide +kernel
theorem d_U_record_7 : decode b_U_record 7 = .ok (.invokestatic 61, 3) := by decide +kernel
theorem d_U_record_10 : decode b_U_record 10 = .ok (.aload_n 0, 1) := by decide +kernel
theorem d_U_record_11 : decode b_U_record 11 = .ok (.getfield 20, 3) := by decide +kernel
theorem d_U_record_14 : decode b_U_record 14 = .ok (.iload_n 1, 1) := by decide +kernel
theorem d_U_record_15 : decode b_U_record 15 = .ok (.aaload, 1) := by decide +kernel
theorem d_U_record_16 : decode b_U_record 16 = .ok (.astore 4, 2) := by decide +kernel
theorem d_U_record_18 : decode b_U_record 18 = .ok (.iload_n 2, 1) := by decide +kernel
theorem d_U_record_19 : decode b_U_record 19 = .ok (.ifCond .ne 9, 3) := by decide +kernel
theorem d_U_record_22 : decode b_U_record 22 = .ok (.aload 4, 2) := by decide +kernel
theorem d_U_record_24 : decode b_U_record 24 = .ok (.getfield 117, 3) := by decide +kernel
theorem d_U_record_27 : decode b_U_record 27 = .ok (.ireturn, 1) := by decide +kernel
theorem d_U_record_28 : decode b_U_record 28 = .ok (.aload 4, 2) := by decide +kernel
theorem d_U_record_30 : decode b_U_record 30 = .ok (.iload_n 2, 1) := by decide +kernel
theorem d_U_record_31 : decode b_U_record 31 = .ok (.invokevirtual 120, 3) := by decide +kernel
theorem d_U_record_34 : decode b_U_record 34 = .ok (.ifCond .eq 16, 3) := by decide +kernel
theorem d_U_record_37 : decode b_U_record 37 = .ok (.iload_n 3, 1) := by decide +kernel
theorem d_U_record_38 : decode b_U_record 38 = .ok (.iconst 0, 1) := by decide +kernel
theorem d_U_record_39 : decode b_U_record 39 = .ok (.iconst 3, 1) := by decide +kernel
theorem d_U_record_40 : decode b_U_record 40 = .ok (.invokestatic 57, 3) := by decide +kernel
theorem d_U_record_43 : decode b_U_record 43 = .ok (.ifCond .eq 7, 3) := by decide +kernel
theorem d_U_record_46 : decode b_U_record 46 = .ok (.iconst 1, 1) := by decide +kernel
theorem d_U_record_47 : decode b_U_record 47 = .ok (.goto 4, 3) := by decide +kernel
theorem d_U_record_50 : decode b_U_record 50 = .ok (.iconst 0, 1) := by decide +kernel
theorem d_U_record_51 : decode b_U_record 51 = .ok (.invokestatic 61, 3) := by decide +kernel
theorem d_U_record_54 : decode b_U_record 54 = .ok (.iload_n 3, 1) := by decide +kernel
theorem d_U_record_55 : decode b_U_record 55 = .ok (.tableswitch 46 0 2 #[25, 32, 39], 25) := by decide +kernel
theorem d_U_record_80 : decode b_U_record 80 = .ok (.aload 4, 2) := by decide +kernel
theorem d_U_record_82 : decode b_U_record 82 = .ok (.iload_n 2, 1) := by decide +kernel
theorem d_U_record_83 : decode b_U_record 83 = .ok (.invokevirtual 124, 3) := by decide +kernel
theorem d_U_record_86 : decode b_U_record 86 = .ok (.ireturn, 1) := by decide +kernel
theorem d_U_record_87 : decode b_U_record 87 = .ok (.aload 4, 2) := by decide +kernel
theorem d_U_record_89 : decode b_U_record 89 = .ok (.iload_n 2, 1) := by decide +kernel
theorem d_U_record_90 : decode b_U_record 90 = .ok (.invokevirtual 127, 3) := by decide +kernel
theorem d_U_record_93 : decode b_U_record 93 = .ok (.ireturn, 1) := by decide +kernel
theorem d_U_record_94 : decode b_U_record 94 = .ok (.aload 4, 2) := by decide +kernel
theorem d_U_record_96 : decode b_U_record 96 = .ok (.iload_n 2, 1) := by decide +kernel
theorem d_U_record_97 : decode b_U_record 97 = .ok (.invokevirtual 130, 3) := by decide +kernel
theorem d_U_record_100 : decode b_U_record 100 = .ok (.ireturn, 1) := by decide +kernel
theorem d_U_record_101 : decode b_U_record 101 = .ok (.aload 4, 2) := by decide +kernel
theorem d_U_record_103 : decode b_U_record 103 = .ok (.iload_n 2, 1) := by decide +kernel
theorem d_U_record_104 : decode b_U_record 104 = .ok (.invokevirtual 133, 3) := by decide +kernel
theorem d_U_record_107 : decode b_U_record 107 = .ok (.ifCond .eq 7, 3) := by decide +kernel
theorem d_U_record_110 : decode b_U_record 110 = .ok (.iconst 1, 1) := by decide +kernel
theorem d_U_record_111 : decode b_U_record 111 = .ok (.goto 4, 3) := by decide +kernel
theorem d_U_record_114 : decode b_U_record 114 = .ok (.iconst 0, 1) := by decide +kernel
theorem d_U_record_115 : decode b_U_record 115 = .ok (.ireturn, 1) := by decide +kernel
theorem d_U_byteOf_0 : decode b_U_byteOf 0 = .ok (.aload_n 0, 1) := by decide +kernel
theorem d_U_byteOf_1 : decode b_U_byteOf 1 = .ok (.iload_n 1, 1) := by decide +kernel
theorem d_U_byteOf_2 : decode b_U_byteOf 2 = .ok (.iload_n 2, 1) := by decide +kernel
theorem d_U_byteOf_3 : decode b_U_byteOf 3 = .ok (.invokevirtual 136, 3) := by decide +kernel
theorem d_U_byteOf_6 : decode b_U_byteOf 6 = .ok (.aload_n 0, 1) := by decide +kernel
theorem d_U_byteOf_7 : decode b_U_byteOf 7 = .ok (.getfield 20, 3) := by decide +kernel
theorem d_U_byteOf_10 : decode b_U_byteOf 10 = .ok (.iload_n 1, 1) := by decide +kernel
theorem d_U_byteOf_11 : decode b_U_byteOf 11 = .ok (.aaload, 1) := by decide +kernel
theorem d_U_byteOf_12 : decode b_U_byteOf 12 = .ok (.astore 4, 2) := by decide +kernel
theorem d_U_byteOf_14 : decode b_U_byteOf 14 = .ok (.iload_n 3, 1) := by decide +kernel
theorem d_U_byteOf_15 : decode b_U_byteOf 15 = .ok (.iconst 0, 1) := by decide +kernel
theorem d_U_byteOf_16 : decode b_U_byteOf 16 = .ok (.aload 4, 2) := by decide +kernel
theorem d_U_byteOf_18 : decode b_U_byteOf 18 = .ok (.iload_n 2, 1) := by decide +kernel
theorem d_U_byteOf_19 : decode b_U_byteOf 19 = .ok (.invokevirtual 127, 3) := by decide +kernel
theorem d_U_byteOf_22 : decode b_U_byteOf 22 = .ok (.aload 4, 2) := by decide +kernel
theorem d_U_byteOf_24 : decode b_U_byteOf 24 = .ok (.iload_n 2, 1) := by decide +kernel
theorem d_U_byteOf_25 : decode b_U_byteOf 25 = .ok (.invokevirtual 130, 3) := by decide +kernel
theorem d_U_byteOf_28 : decode b_U_byteOf 28 = .ok (.iadd, 1) := by decide +kernel
theorem d_U_byteOf_29 : decode b_U_byteOf 29 = .ok (.iconst 1, 1) := by decide +kernel
theorem d_U_byteOf_30 : decode b_U_byteOf 30 = .ok (.isub, 1) := by decide +kernel
theorem d_U_byteOf_31 : decode b_U_byteOf 31 = .ok (.invokestatic 57, 3) := by decide +kernel
theorem d_U_byteOf_34 : decode b_U_byteOf 34 = .ok (.invokestatic 61, 3) := by decide +kernel
theorem d_U_byteOf_37 : decode b_U_byteOf 37 = .ok (.aload 4, 2) := by decide +kernel
theorem d_U_byteOf_39 : decode b_U_byteOf 39 = .ok (.iload_n 2, 1) := by decide +kernel
theorem d_U_byteOf_40 : decode b_U_byteOf 40 = .ok (.iload_n 3, 1) := by decide +kernel
theorem d_U_byteOf_41 : decode b_U_byteOf 41 = .ok (.invokevirtual 139, 3) := by decide +kernel
theorem d_U_byteOf_44 : decode b_U_byteOf 44 = .ok (.ireturn, 1) := by decide +kernel
theorem d_U_spoil_0 : decode b_U_spoil 0 = .ok (.aload_n 0, 1) := by decide +kernel
theorem d_U_spoil_1 : decode b_U_spoil 1 = .ok (.iload_n 1, 1) := by decide +kernel
theorem d_U_spoil_2 : decode b_U_spoil 2 = .ok (.iload_n 2, 1) := by decide +kernel
theorem d_U_spoil_3 : decode b_U_spoil 3 = .ok (.invokevirtual 136, 3) := by decide +kernel
theorem d_U_spoil_6 : decode b_U_spoil 6 = .ok (.aload_n 0, 1) := by decide +kernel
theorem d_U_spoil_7 : decode b_U_spoil 7 = .ok (.getfield 20, 3) := by decide +kernel
theorem d_U_spoil_10 : decode b_U_spoil 10 = .ok (.iload_n 1, 1) := by decide +kernel
theorem d_U_spoil_11 : decode b_U_spoil 11 = .ok (.aaload, 1) := by decide +kernel
theorem d_U_spoil_12 : decode b_U_spoil 12 = .ok (.iload_n 2, 1) := by decide +kernel
theorem d_U_spoil_13 : decode b_U_spoil 13 = .ok (.invokevirtual 143, 3) := by decide +kernel
theorem d_U_spoil_16 : decode b_U_spoil 16 = .ok (.return_, 1) := by decide +kernel
theorem d_U_allocate_0 : decode b_U_allocate 0 = .ok (.iload_n 1, 1) := by decide +kernel
theorem d_U_allocate_1 : decode b_U_allocate 1 = .ok (.invokestatic 146, 3) := by decide +kernel
theorem d_U_allocate_4 : decode b_U_allocate 4 = .ok (.iload_n 2, 1) := by decide +kernel
theorem d_U_allocate_5 : decode b_U_allocate 5 = .ok (.iconst 1, 1) := by decide +kernel
theorem d_U_allocate_6 : decode b_U_allocate 6 = .ok (.bipush 32, 2) := by decide +kernel
theorem d_U_allocate_8 : decode b_U_allocate 8 = .ok (.invokestatic 57, 3) := by decide +kernel
theorem d_U_allocate_11 : decode b_U_allocate 11 = .ok (.invokestatic 61, 3) := by decide +kernel
theorem d_U_allocate_14 : decode b_U_allocate 14 = .ok (.aload_n 0, 1) := by decide +kernel
theorem d_U_allocate_15 : decode b_U_allocate 15 = .ok (.getfield 53, 3) := by decide +kernel
theorem d_U_allocate_18 : decode b_U_allocate 18 = .ok (.iload_n 1, 1) := by decide +kernel
theorem d_U_allocate_19 : decode b_U_allocate 19 = .ok (.invokevirtual 149, 3) := by decide +kernel
theorem d_U_allocate_22 : decode b_U_allocate 22 = .ok (.ifCond .ne 18, 3) := by decide +kernel
theorem d_U_allocate_25 : decode b_U_allocate 25 = .ok (.aload_n 0, 1) := by decide +kernel
theorem d_U_allocate_26 : decode b_U_allocate 26 = .ok (.getfield 53, 3) := by decide +kernel
theorem d_U_allocate_29 : decode b_U_allocate 29 = .ok (.iload_n 2, 1) := by decide +kernel
theorem d_U_allocate_30 : decode b_U_allocate 30 = .ok (.invokevirtual 152, 3) := by decide +kernel
theorem d_U_allocate_33 : decode b_U_allocate 33 = .ok (.ifCond .eq 7, 3) := by decide +kernel
theorem d_U_allocate_36 : decode b_U_allocate 36 = .ok (.iconst 1, 1) := by decide +kernel
theorem d_U_allocate_37 : decode b_U_allocate 37 = .ok (.goto 4, 3) := by decide +kernel
theorem d_U_allocate_40 : decode b_U_allocate 40 = .ok (.iconst 0, 1) := by decide +kernel
theorem d_U_allocate_41 : decode b_U_allocate 41 = .ok (.invokestatic 72, 3) := by decide +kernel
theorem d_U_allocate_44 : decode b_U_allocate 44 = .ok (.aload_n 0, 1) := by decide +kernel
theorem d_U_allocate_45 : decode b_U_allocate 45 = .ok (.getfield 53, 3) := by decide +kernel
theorem d_U_allocate_48 : decode b_U_allocate 48 = .ok (.iload_n 1, 1) := by decide +kernel
theorem d_U_allocate_49 : decode b_U_allocate 49 = .ok (.iload_n 2, 1) := by decide +kernel
theorem d_U_allocate_50 : decode b_U_allocate 50 = .ok (.invokevirtual 155, 3) := by decide +kernel
theorem d_U_allocate_53 : decode b_U_allocate 53 = .ok (.ireturn, 1) := by decide +kernel
theorem d_U_scratch_0 : decode b_U_scratch 0 = .ok (.iload_n 1, 1) := by decide +kernel
theorem d_U_scratch_1 : decode b_U_scratch 1 = .ok (.invokestatic 146, 3) := by decide +kernel
theorem d_U_scratch_4 : decode b_U_scratch 4 = .ok (.aload_n 0, 1) := by decide +kernel
theorem d_U_scratch_5 : decode b_U_scratch 5 = .ok (.getfield 53, 3) := by decide +kernel
theorem d_U_scratch_8 : decode b_U_scratch 8 = .ok (.iload_n 1, 1) := by decide +kernel
theorem d_U_scratch_9 : decode b_U_scratch 9 = .ok (.invokevirtual 149, 3) := by decide +kernel
theorem d_U_scratch_12 : decode b_U_scratch 12 = .ok (.invokestatic 72, 3) := by decide +kernel
theorem d_U_scratch_15 : decode b_U_scratch 15 = .ok (.aload_n 0, 1) := by decide +kernel
theorem d_U_scratch_16 : decode b_U_scratch 16 = .ok (.getfield 53, 3) := by decide +kernel
theorem d_U_scratch_19 : decode b_U_scratch 19 = .ok (.iload_n 1, 1) := by decide +kernel
theorem d_U_scratch_20 : decode b_U_scratch 20 = .ok (.invokevirtual 158, 3) := by decide +kernel
theorem d_U_scratch_23 : decode b_U_scratch 23 = .ok (.return_, 1) := by decide +kernel
theorem d_U_trackOf_0 : decode b_U_trackOf 0 = .ok (.iload_n 1, 1) := by decide +kernel
theorem d_U_trackOf_1 : decode b_U_trackOf 1 = .ok (.invokestatic 146, 3) := by decide +kernel
theorem d_U_trackOf_4 : decode b_U_trackOf 4 = .ok (.aload_n 0, 1) := by decide +kernel
theorem d_U_trackOf_5 : decode b_U_trackOf 5 = .ok (.getfield 53, 3) := by decide +kernel
theorem d_U_trackOf_8 : decode b_U_trackOf 8 = .ok (.iload_n 1, 1) := by decide +kernel
theorem d_U_trackOf_9 : decode b_U_trackOf 9 = .ok (.invokevirtual 161, 3) := by decide +kernel
theorem d_U_trackOf_12 : decode b_U_trackOf 12 = .ok (.istore_n 3, 1) := by decide +kernel
theorem d_U_trackOf_13 : decode b_U_trackOf 13 = .ok (.iload_n 2, 1) := by decide +kernel
theorem d_U_trackOf_14 : decode b_U_trackOf 14 = .ok (.iconst (-1), 1) := by decide +kernel
theorem d_U_trackOf_15 : decode b_U_trackOf 15 = .ok (.if_icmp .ne 5, 3) := by decide +kernel
theorem d_U_trackOf_18 : decode b_U_trackOf 18 = .ok (.iload_n 3, 1) := by decide +kernel
theorem d_U_trackOf_19 : decode b_U_trackOf 19 = .ok (.ireturn, 1) := by decide +kernel
theorem d_U_trackOf_20 : decode b_U_trackOf 20 = .ok (.iload_n 2, 1) := by decide +kernel
theorem d_U_trackOf_21 : decode b_U_trackOf 21 = .ok (.iconst 0, 1) := by decide +kernel
theorem d_U_trackOf_22 : decode b_U_trackOf 22 = .ok (.iload_n 3, 1) := by decide +kernel
theorem d_U_trackOf_23 : decode b_U_trackOf 23 = .ok (.iconst 1, 1) := by decide +kernel
theorem d_U_trackOf_24 : decode b_U_trackOf 24 = .ok (.isub, 1) := by decide +kernel
theorem d_U_trackOf_25 : decode b_U_trackOf 25 = .ok (.invokestatic 57, 3) := by decide +kernel
theorem d_U_trackOf_28 : decode b_U_trackOf 28 = .ok (.invokestatic 61, 3) := by decide +kernel
theorem d_U_trackOf_31 : decode b_U_trackOf 31 = .ok (.aload_n 0, 1) := by decide +kernel
theorem d_U_trackOf_32 : decode b_U_trackOf 32 = .ok (.getfield 53, 3) := by decide +kernel
theorem d_U_trackOf_35 : decode b_U_trackOf 35 = .ok (.iload_n 1, 1) := by decide +kernel
theorem d_U_trackOf_36 : decode b_U_trackOf 36 = .ok (.iload_n 2, 1) := by decide +kernel
theorem d_U_trackOf_37 : decode b_U_trackOf 37 = .ok (.invokevirtual 163, 3) := by decide +kernel
theorem d_U_trackOf_40 : decode b_U_trackOf 40 = .ok (.ireturn, 1) := by decide +kernel
theorem d_U_free_0 : decode b_U_free 0 = .ok (.aload_n 0, 1) := by decide +kernel
theorem d_U_free_1 : decode b_U_free 1 = .ok (.getfield 53, 3) := by decide +kernel
theorem d_U_free_4 : decode b_U_free 4 = .ok (.iconst (-1), 1) := by decide +kernel
theorem d_U_free_5 : decode b_U_free 5 = .ok (.invokevirtual 161, 3) := by decide +kernel
theorem d_U_free_8 : decode b_U_free 8 = .ok (.ireturn, 1) := by decide +kernel
theorem d_U_store_0 : decode b_U_store 0 = .ok (.iload_n 1, 1) := by decide +kernel
theorem d_U_store_1 : decode b_U_store 1 = .ok (.invokestatic 146, 3) := by decide +kernel
theorem d_U_store_4 : decode b_U_store 4 = .ok (.iload_n 3, 1) := by decide +kernel
theorem d_U_store_5 : decode b_U_store 5 = .ok (.iconst 0, 1) := by decide +kernel
theorem d_U_store_6 : decode b_U_store 6 = .ok (.bipush 60, 2) := by decide +kernel
theorem d_U_store_8 : decode b_U_store 8 = .ok (.invokestatic 57, 3) := by decide +kernel
theorem d_U_store_11 : decode b_U_store 11 = .ok (.invokestatic 61, 3) := by decide +kernel
theorem d_U_store_14 : decode b_U_store 14 = .ok (.aload_n 0, 1) := by decide +kernel
theorem d_U_store_15 : decode b_U_store 15 = .ok (.getfield 53, 3) := by decide +kernel
theorem d_U_store_18 : decode b_U_store 18 = .ok (.iload_n 1, 1) := by decide +kernel
theorem d_U_store_19 : decode b_U_store 19 = .ok (.invokevirtual 149, 3) := by decide +kernel
theorem d_U_store_22 : decode b_U_store 22 = .ok (.invokestatic 72, 3) := by decide +kernel
theorem d_U_store_25 : decode b_U_store 25 = .ok (.aload_n 0, 1) := by decide +kernel
theorem d_U_store_26 : decode b_U_store 26 = .ok (.getfield 53, 3) := by decide +kernel
theorem d_U_store_29 : decode b_U_store 29 = .ok (.iload_n 1, 1) := by decide +kernel
theorem d_U_store_30 : decode b_U_store 30 = .ok (.iload_n 2, 1) := by decide +kernel
theorem d_U_store_31 : decode b_U_store 31 = .ok (.invokevirtual 166, 3) := by decide +kernel
theorem d_U_store_34 : decode b_U_store 34 = .ok (.istore 4, 2) := by decide +kernel
theorem d_U_store_36 : decode b_U_store 36 = .ok (.iload 4, 2) := by decide +kernel
theorem d_U_store_38 : decode b_U_store 38 = .ok (.iconst (-1), 1) := by decide +kernel
theorem d_U_store_39 : decode b_U_store 39 = .ok (.if_icmp .ne 11, 3) := by decide +kernel
theorem d_U_store_42 : decode b_U_store 42 = .ok (.aload_n 0, 1) := by decide +kernel
theorem d_U_store_43 : decode b_U_store 43 = .ok (.iload_n 1, 1) := by decide +kernel
theorem d_U_store_44 : decode b_U_store 44 = .ok (.iload_n 2, 1) := by decide +kernel
theorem d_U_store_45 : decode b_U_store 45 = .ok (.iload_n 3, 1) := by decide +kernel
theorem d_U_store_46 : decode b_U_store 46 = .ok (.invokevirtual 169, 3) := by decide +kernel
theorem d_U_store_49 : decode b_U_store 49 = .ok (.ireturn, 1) := by decide +kernel
theorem d_U_store_50 : decode b_U_store 50 = .ok (.aload_n 0, 1) := by decide +kernel
theorem d_U_store_51 : decode b_U_store 51 = .ok (.getfield 20, 3) := by decide +kernel
theorem d_U_store_54 : decode b_U_store 54 = .ok (.iload 4, 2) := by decide +kernel
theorem d_U_store_56 : decode b_U_store 56 = .ok (.aaload, 1) := by decide +kernel
theorem d_U_store_57 : decode b_U_store 57 = .ok (.astore 5, 2) := by decide +kernel
theorem d_U_store_59 : decode b_U_store 59 = .ok (.aload 5, 2) := by decide +kernel
theorem d_U_store_61 : decode b_U_store 61 = .ok (.iload_n 2, 1) := by decide +kernel
theorem d_U_store_62 : decode b_U_store 62 = .ok (.invokevirtual 173, 3) := by decide +kernel
theorem d_U_store_65 : decode b_U_store 65 = .ok (.istore 6, 2) := by decide +kernel
theorem d_U_store_67 : decode b_U_store 67 = .ok (.aload 5, 2) := by decide +kernel
theorem d_U_store_69 : decode b_U_store 69 = .ok (.iload 6, 2) := by decide +kernel
theorem d_U_store_71 : decode b_U_store 71 = .ok (.invokevirtual 130, 3) := by decide +kernel
theorem d_U_store_74 : decode b_U_store 74 = .ok (.iload_n 3, 1) := by decide +kernel
theorem d_U_store_75 : decode b_U_store 75 = .ok (.if_icmp .ne 7, 3) := by decide +kernel
theorem d_U_store_78 : decode b_U_store 78 = .ok (.iconst 1, 1) := by decide +kernel
theorem d_U_store_79 : decode b_U_store 79 = .ok (.goto 4, 3) := by decide +kernel
theorem d_U_store_82 : decode b_U_store 82 = .ok (.iconst 0, 1) := by decide +kernel
theorem d_U_store_83 : decode b_U_store 83 = .ok (.invokestatic 72, 3) := by decide +kernel
theorem d_U_store_86 : decode b_U_store 86 = .ok (.aload 5, 2) := by decide +kernel
theorem d_U_store_88 : decode b_U_store 88 = .ok (.iload 6, 2) := by decide +kernel
theorem d_U_store_90 : decode b_U_store 90 = .ok (.aload_n 0, 1) := by decide +kernel
theorem d_U_store_91 : decode b_U_store 91 = .ok (.getfield 14, 3) := by decide +kernel
theorem d_U_store_94 : decode b_U_store 94 = .ok (.iconst 0, 1) := by decide +kernel
theorem d_U_store_95 : decode b_U_store 95 = .ok (.invokevirtual 176, 3) := by decide +kernel
theorem d_U_store_98 : decode b_U_store 98 = .ok (.iload 4, 2) := by decide +kernel
theorem d_U_store_100 : decode b_U_store 100 = .ok (.ireturn, 1) := by decide +kernel
theorem d_U_fetch_0 : decode b_U_fetch 0 = .ok (.iload_n 1, 1) := by decide +kernel
theorem d_U_fetch_1 : decode b_U_fetch 1 = .ok (.invokestatic 146, 3) := by decide +kernel
theorem d_U_fetch_4 : decode b_U_fetch 4 = .ok (.aload_n 0, 1) := by decide +kernel
theorem d_U_fetch_5 : decode b_U_fetch 5 = .ok (.getfield 53, 3) := by decide +kernel
theorem d_U_fetch_8 : decode b_U_fetch 8 = .ok (.iload_n 1, 1) := by decide +kernel
theorem d_U_fetch_9 : decode b_U_fetch 9 = .ok (.invokevirtual 149, 3) := by decide +kernel
theorem d_U_fetch_12 : decode b_U_fetch 12 = .ok (.invokestatic 72, 3) := by decide +kernel
theorem d_U_fetch_15 : decode b_U_fetch 15 = .ok (.aload_n 0, 1) := by decide +kernel
theorem d_U_fetch_16 : decode b_U_fetch 16 = .ok (.getfield 53, 3) := by decide +kernel
theorem d_U_fetch_19 : decode b_U_fetch 19 = .ok (.iload_n 1, 1) := by decide +kernel
theorem d_U_fetch_20 : decode b_U_fetch 20 = .ok (.iload_n 2, 1) := by decide +kernel
theorem d_U_fetch_21 : decode b_U_fetch 21 = .ok (.invokevirtual 166, 3) := by decide +kernel
theorem d_U_fetch_24 : decode b_U_fetch 24 = .ok (.istore_n 3, 1) := by decide +kernel
theorem d_U_fetch_25 : decode b_U_fetch 25 = .ok (.iload_n 3, 1) := by decide +kernel
theorem d_U_fetch_26 : decode b_U_fetch 26 = .ok (.iconst (-1), 1) := by decide +kernel
theorem d_U_fetch_27 : decode b_U_fetch 27 = .ok (.if_icmp .ne 5, 3) := by decide +kernel
theorem d_U_fetch_30 : decode b_U_fetch 30 = .ok (.iconst (-1), 1) := by decide +kernel
theorem d_U_fetch_31 : decode b_U_fetch 31 = .ok (.ireturn, 1) := by decide +kernel
theorem d_U_fetch_32 : decode b_U_fetch 32 = .ok (.aload_n 0, 1) := by decide +kernel
theorem d_U_fetch_33 : decode b_U_fetch 33 = .ok (.getfield 20, 3) := by decide +kernel
theorem d_U_fetch_36 : decode b_U_fetch 36 = .ok (.iload_n 3, 1) := by decide +kernel
theorem d_U_fetch_37 : decode b_U_fetch 37 = .ok (.aaload, 1) := by decide +kernel
theorem d_U_fetch_38 : decode b_U_fetch 38 = .ok (.astore 4, 2) := by decide +kernel
theorem d_U_fetch_40 : decode b_U_fetch 40 = .ok (.aload 4, 2) := by decide +kernel
theorem d_U_fetch_42 : decode b_U_fetch 42 = .ok (.iload_n 2, 1) := by decide +kernel
theorem d_U_fetch_43 : decode b_U_fetch 43 = .ok (.invokevirtual 173, 3) := by decide +kernel
theorem d_U_fetch_46 : decode b_U_fetch 46 = .ok (.istore 5, 2) := by decide +kernel
theorem d_U_fetch_48 : decode b_U_fetch 48 = .ok (.aload 4, 2) := by decide +kernel
theorem d_U_fetch_50 : decode b_U_fetch 50 = .ok (.iload 5, 2) := by decide +kernel
theorem d_U_fetch_52 : decode b_U_fetch 52 = .ok (.invokevirtual 133, 3) := by decide +kernel
theorem d_U_fetch_55 : decode b_U_fetch 55 = .ok (.ifCond .eq 6, 3) := by decide +kernel
theorem d_U_fetch_58 : decode b_U_fetch 58 = .ok (.bipush (-2), 2) := by decide +kernel
theorem d_U_fetch_60 : decode b_U_fetch 60 = .ok (.ireturn, 1) := by decide +kernel
theorem d_U_fetch_61 : decode b_U_fetch 61 = .ok (.aload 4, 2) := by decide +kernel
theorem d_U_fetch_63 : decode b_U_fetch 63 = .ok (.iload 5, 2) := by decide +kernel
theorem d_U_fetch_65 : decode b_U_fetch 65 = .ok (.invokevirtual 130, 3) := by decide +kernel
theorem d_U_fetch_68 : decode b_U_fetch 68 = .ok (.istore 6, 2) := by decide +kernel
theorem d_U_fetch_70 : decode b_U_fetch 70 = .ok (.aload 4, 2) := by decide +kernel
theorem d_U_fetch_72 : decode b_U_fetch 72 = .ok (.iload 5, 2) := by decide +kernel
theorem d_U_fetch_74 : decode b_U_fetch 74 = .ok (.iconst 3, 1) := by decide +kernel
theorem d_U_fetch_75 : decode b_U_fetch 75 = .ok (.aload_n 0, 1) := by decide +kernel
theorem d_U_fetch_76 : decode b_U_fetch 76 = .ok (.getfield 14, 3) := by decide +kernel
theorem d_U_fetch_79 : decode b_U_fetch 79 = .ok (.iconst 0, 1) := by decide +kernel
theorem d_U_fetch_80 : decode b_U_fetch 80 = .ok (.iload 6, 2) := by decide +kernel
theorem d_U_fetch_82 : decode b_U_fetch 82 = .ok (.invokevirtual 180, 3) := by decide +kernel
theorem d_U_fetch_85 : decode b_U_fetch 85 = .ok (.iload 6, 2) := by decide +kernel
theorem d_U_fetch_87 : decode b_U_fetch 87 = .ok (.ireturn, 1) := by decide +kernel
theorem d_U_storeNew_0 : decode b_U_storeNew 0 = .ok (.aload_n 0, 1) := by decide +kernel
theorem d_U_storeNew_1 : decode b_U_storeNew 1 = .ok (.getfield 53, 3) := by decide +kernel
theorem d_U_storeNew_4 : decode b_U_storeNew 4 = .ok (.iload_n 1, 1) := by decide +kernel
theorem d_U_storeNew_5 : decode b_U_storeNew 5 = .ok (.iload_n 2, 1) := by decide +kernel
theorem d_U_storeNew_6 : decode b_U_storeNew 6 = .ok (.bipush 24, 2) := by decide +kernel
theorem d_U_storeNew_8 : decode b_U_storeNew 8 = .ok (.iload_n 3, 1) := by decide +kernel
theorem d_U_storeNew_9 : decode b_U_storeNew 9 = .ok (.iadd, 1) := by decide +kernel
theorem d_U_storeNew_10 : decode b_U_storeNew 10 = .ok (.invokevirtual 184, 3) := by decide +kernel
theorem d_U_storeNew_13 : decode b_U_storeNew 13 = .ok (.istore 4, 2) := by decide +kernel
theorem d_U_storeNew_15 : decode b_U_storeNew 15 = .ok (.iload 4, 2) := by decide +kernel
theorem d_U_storeNew_17 : decode b_U_storeNew 17 = .ok (.iconst (-1), 1) := by decide +kernel
theorem d_U_storeNew_18 : decode b_U_storeNew 18 = .ok (.if_icmp .eq 7, 3) := by decide +kernel
theorem d_U_storeNew_21 : decode b_U_storeNew 21 = .ok (.iconst 1, 1) := by decide +kernel
theorem d_U_storeNew_22 : decode b_U_storeNew 22 = .ok (.goto 4, 3) := by decide +kernel
theorem d_U_storeNew_25 : decode b_U_storeNew 25 = .ok (.iconst 0, 1) := by decide +kernel
theorem d_U_storeNew_26 : decode b_U_storeNew 26 = .ok (.invokestatic 72, 3) := by decide +kernel
theorem d_U_storeNew_29 : decode b_U_storeNew 29 = .ok (.aload_n 0, 1) := by decide +kernel
theorem d_U_storeNew_30 : decode b_U_storeNew 30 = .ok (.getfield 20, 3) := by decide +kernel
theorem d_U_storeNew_33 : decode b_U_storeNew 33 = .ok (.iload 4, 2) := by decide +kernel
theorem d_U_storeNew_35 : decode b_U_storeNew 35 = .ok (.aaload, 1) := by decide +kernel
theorem d_U_storeNew_36 : decode b_U_storeNew 36 = .ok (.astore 5, 2) := by decide +kernel
theorem d_U_storeNew_38 : decode b_U_storeNew 38 = .ok (.aload 5, 2) := by decide +kernel
theorem d_U_storeNew_40 : decode b_U_storeNew 40 = .ok (.iconst 4, 1) := by decide +kernel
theorem d_U_storeNew_41 : decode b_U_storeNew 41 = .ok (.iload_n 3, 1) := by decide +kernel
theorem d_U_storeNew_42 : decode b_U_storeNew 42 = .ok (.invokevirtual 187, 3) := by decide +kernel
theorem d_U_storeNew_45 : decode b_U_storeNew 45 = .ok (.istore 6, 2) := by decide +kernel
theorem d_U_storeNew_47 : decode b_U_storeNew 47 = .ok (.aload 5, 2) := by decide +kernel
theorem d_U_storeNew_49 : decode b_U_storeNew 49 = .ok (.iload 6, 2) := by decide +kernel
theorem d_U_storeNew_51 : decode b_U_storeNew 51 = .ok (.iload_n 2, 1) := by decide +kernel
theorem d_U_storeNew_52 : decode b_U_storeNew 52 = .ok (.invokevirtual 190, 3) := by decide +kernel
theorem d_U_storeNew_55 : decode b_U_storeNew 55 = .ok (.aload 5, 2) := by decide +kernel
theorem d_U_storeNew_57 : decode b_U_storeNew 57 = .ok (.iload 6, 2) := by decide +kernel
theorem d_U_storeNew_59 : decode b_U_storeNew 59 = .ok (.aload_n 0, 1) := by decide +kernel
theorem d_U_storeNew_60 : decode b_U_storeNew 60 = .ok (.getfield 14, 3) := by decide +kernel
theorem d_U_storeNew_63 : decode b_U_storeNew 63 = .ok (.iconst 0, 1) := by decide +kernel
theorem d_U_storeNew_64 : decode b_U_storeNew 64 = .ok (.invokevirtual 176, 3) := by decide +kernel
theorem d_U_storeNew_67 : decode b_U_storeNew 67 = .ok (.iload 4, 2) := by decide +kernel
theorem d_U_storeNew_69 : decode b_U_storeNew 69 = .ok (.ireturn, 1) := by decide +kernel
theorem d_U_needRecord_0 : decode b_U_needRecord 0 = .ok (.iload_n 1, 1) := by decide +kernel
theorem d_U_needRecord_1 : decode b_U_needRecord 1 = .ok (.iconst 0, 1) := by decide +kernel
theorem d_U_needRecord_2 : decode b_U_needRecord 2 = .ok (.bipush 31, 2) := by decide +kernel
theorem d_U_needRecord_4 : decode b_U_needRecord 4 = .ok (.invokestatic 57, 3) := by decide +kernel
theorem d_U_needRecord_7 : decode b_U_needRecord 7 = .ok (.invokestatic 61, 3) := by decide +kernel
theorem d_U_needRecord_10 : decode b_U_needRecord 10 = .ok (.aload_n 0, 1) := by decide +kernel
theorem d_U_needRecord_11 : decode b_U_needRecord 11 = .ok (.getfield 20, 3) := by decide +kernel
theorem d_U_needRecord_14 : decode b_U_needRecord 14 = .ok (.iload_n 1, 1) := by decide +kernel
theorem d_U_needRecord_15 : decode b_U_needRecord 15 = .ok (.aaload, 1) := by decide +kernel
theorem d_U_needRecord_16 : decode b_U_needRecord 16 = .ok (.iload_n 2, 1) := by decide +kernel
theorem d_U_needRecord_17 : decode b_U_needRecord 17 = .ok (.invokevirtual 120, 3) := by decide +kernel
theorem d_U_needRecord_20 : decode b_U_needRecord 20 = .ok (.invokestatic 61, 3) := by decide +kernel
theorem d_U_needRecord_23 : decode b_U_needRecord 23 = .ok (.return_, 1) := by decide +kernel
theorem d_U_needSet_0 : decode b_U_needSet 0 = .ok (.iload_n 0, 1) := by decide +kernel
theorem d_U_needSet_1 : decode b_U_needSet 1 = .ok (.iconst 0, 1) := by decide +kernel
theorem d_U_needSet_2 : decode b_U_needSet 2 = .ok (.iconst 5, 1) := by decide +kernel
theorem d_U_needSet_3 : decode b_U_needSet 3 = .ok (.invokestatic 57, 3) := by decide +kernel
theorem d_U_needSet_6 : decode b_U_needSet 6 = .ok (.invokestatic 61, 3) := by decide +kernel
theorem d_U_needSet_9 : decode b_U_needSet 9 = .ok (.return_, 1) := by decide +kernel
theorem d_U_needArgument_0 : decode b_U_needArgument 0 = .ok (.iload_n 0, 1) := by decide +kernel
theorem d_U_needArgument_1 : decode b_U_needArgument 1 = .ok (.ifCond .ne 11, 3) := by decide +kernel
theorem d_U_needArgument_4 : decode b_U_needArgument 4 = .ok (.new 193, 3) := by decide +kernel
theorem d_U_needArgument_7 : decode b_U_needArgument 7 = .ok (.dup, 1) := by decide +kernel
theorem d_U_needArgument_8 : decode b_U_needArgument 8 = .ok (.invokespecial 195, 3) := by decide +kernel
theorem d_U_needArgument_11 : decode b_U_needArgument 11 = .ok (.athrow, 1) := by decide +kernel
theorem d_U_needArgument_12 : decode b_U_needArgument 12 = .ok (.return_, 1) := by decide +kernel
theorem d_U_needState_0 : decode b_U_needState 0 = .ok (.iload_n 0, 1) := by decide +kernel
theorem d_U_needState_1 : decode b_U_needState 1 = .ok (.ifCond .ne 11, 3) := by decide +kernel
theorem d_U_needState_4 : decode b_U_needState 4 = .ok (.new 196, 3) := by decide +kernel
theorem d_U_needState_7 : decode b_U_needState 7 = .ok (.dup, 1) := by decide +kernel
theorem d_U_needState_8 : decode b_U_needState 8 = .ok (.invokespecial 198, 3) := by decide +kernel
theorem d_U_needState_11 : decode b_U_needState 11 = .ok (.athrow, 1) := by decide +kernel
theorem d_U_needState_12 : decode b_U_needState 12 = .ok (.return_, 1) := by decide +kernel
theorem d_U_isWithin_0 : decode b_U_isWithin 0 = .ok (.iload_n 0, 1) := by decide +kernel
theorem d_U_isWithin_1 : decode b_U_isWithin 1 = .ok (.iload_n 1, 1) := by decide +kernel
theorem d_U_isWithin_2 : decode b_U_isWithin 2 = .ok (.if_icmp .lt 12, 3) := by decide +kernel
theorem d_U_isWithin_5 : decode b_U_isWithin 5 = .ok (.iload_n 0, 1) := by decide +kernel
theorem d_U_isWithin_6 : decode b_U_isWithin 6 = .ok (.iload_n 2, 1) := by decide +kernel
theorem d_U_isWithin_7 : decode b_U_isWithin 7 = .ok (.if_icmp .gt 7, 3) := by decide +kernel
theorem d_U_isWithin_10 : decode b_U_isWithin 10 = .ok (.iconst 1, 1) := by decide +kernel
theorem d_U_isWithin_11 : decode b_U_isWithin 11 = .ok (.goto 4, 3) := by decide +kernel
theorem d_U_isWithin_14 : decode b_U_isWithin 14 = .ok (.iconst 0, 1) := by decide +kernel
theorem d_U_isWithin_15 : decode b_U_isWithin 15 = .ok (.ireturn, 1) := by decide +kernel
