theorem dRd_init_0 : decode bRd_init 0 = .ok (.aload_n 0, 1) := by decide +kernel
theorem dRd_init_1 : decode bRd_init 1 = .ok (.invokespecial 3, 3) := by decide +kernel
theorem dRd_init_4 : decode bRd_init 4 = .ok (.aload_n 0, 1) := by decide +kernel
theorem dRd_init_5 : decode bRd_init 5 = .ok (.sipush 700, 3) := by decide +kernel
theorem dRd_init_8 : decode bRd_init 8 = .ok (.newarray .byte, 2) := by decide +kernel
theorem dRd_init_10 : decode bRd_init 10 = .ok (.putfield 11, 3) := by decide +kernel
theorem dRd_init_13 : decode bRd_init 13 = .ok (.aload_n 0, 1) := by decide +kernel
theorem dRd_init_14 : decode bRd_init 14 = .ok (.iconst 5, 1) := by decide +kernel
theorem dRd_init_15 : decode bRd_init 15 = .ok (.newarray .long, 2) := by decide +kernel
theorem dRd_init_17 : decode bRd_init 17 = .ok (.putfield 15, 3) := by decide +kernel
theorem dRd_init_20 : decode bRd_init 20 = .ok (.aload_n 0, 1) := by decide +kernel
theorem dRd_init_21 : decode bRd_init 21 = .ok (.iconst 4, 1) := by decide +kernel
theorem dRd_init_22 : decode bRd_init 22 = .ok (.newarray .long, 2) := by decide +kernel
theorem dRd_init_24 : decode bRd_init 24 = .ok (.putfield 19, 3) := by decide +kernel
theorem dRd_init_27 : decode bRd_init 27 = .ok (.return_, 1) := by decide +kernel
theorem dRd_hasRoomFor_0 : decode bRd_hasRoomFor 0 = .ok (.aload_n 0, 1) := by decide +kernel
theorem dRd_hasRoomFor_1 : decode bRd_hasRoomFor 1 = .ok (.getfield 22, 3) := by decide +kernel
theorem dRd_hasRoomFor_4 : decode bRd_hasRoomFor 4 = .ok (.iload_n 1, 1) := by decide +kernel
theorem dRd_hasRoomFor_5 : decode bRd_hasRoomFor 5 = .ok (.iadd, 1) := by decide +kernel
theorem dRd_hasRoomFor_6 : decode bRd_hasRoomFor 6 = .ok (.sipush 700, 3) := by decide +kernel
theorem dRd_hasRoomFor_9 : decode bRd_hasRoomFor 9 = .ok (.if_icmp .gt 7, 3) := by decide +kernel
theorem dRd_hasRoomFor_12 : decode bRd_hasRoomFor 12 = .ok (.iconst 1, 1) := by decide +kernel
theorem dRd_hasRoomFor_13 : decode bRd_hasRoomFor 13 = .ok (.goto 4, 3) := by decide +kernel
theorem dRd_hasRoomFor_16 : decode bRd_hasRoomFor 16 = .ok (.iconst 0, 1) := by decide +kernel
theorem dRd_hasRoomFor_17 : decode bRd_hasRoomFor 17 = .ok (.ireturn, 1) := by decide +kernel
theorem dRd_append_0 : decode bRd_append 0 = .ok (.bipush 24, 2) := by decide +kernel
theorem dRd_append_2 : decode bRd_append 2 = .ok (.istore_n 2, 1) := by decide +kernel
theorem dRd_append_3 : decode bRd_append 3 = .ok (.iload_n 2, 1) := by decide +kernel
theorem dRd_append_4 : decode bRd_append 4 = .ok (.ifCond .lt 49, 3) := by decide +kernel
theorem dRd_append_7 : decode bRd_append 7 = .ok (.aload_n 0, 1) := by decide +kernel
theorem dRd_append_8 : decode bRd_append 8 = .ok (.getfield 22, 3) := by decide +kernel
theorem dRd_append_11 : decode bRd_append 11 = .ok (.ifCond .lt 42, 3) := by decide +kernel
theorem dRd_append_14 : decode bRd_append 14 = .ok (.aload_n 0, 1) := by decide +kernel
theorem dRd_append_15 : decode bRd_append 15 = .ok (.getfield 22, 3) := by decide +kernel
theorem dRd_append_18 : decode bRd_append 18 = .ok (.sipush 700, 3) := by decide +kernel
theorem dRd_append_21 : decode bRd_append 21 = .ok (.if_icmp .ge 32, 3) := by decide +kernel
theorem dRd_append_24 : decode bRd_append 24 = .ok (.aload_n 0, 1) := by decide +kernel
theorem dRd_append_25 : decode bRd_append 25 = .ok (.getfield 11, 3) := by decide +kernel
theorem dRd_append_28 : decode bRd_append 28 = .ok (.aload_n 0, 1) := by decide +kernel
theorem dRd_append_29 : decode bRd_append 29 = .ok (.getfield 22, 3) := by decide +kernel
theorem dRd_append_32 : decode bRd_append 32 = .ok (.iload_n 1, 1) := by decide +kernel
theorem dRd_append_33 : decode bRd_append 33 = .ok (.iload_n 2, 1) := by decide +kernel
theorem dRd_append_34 : decode bRd_append 34 = .ok (.ishr, 1) := by decide +kernel
theorem dRd_append_35 : decode bRd_append 35 = .ok (.i2b, 1) := by decide +kernel
theorem dRd_append_36 : decode bRd_append 36 = .ok (.bastore, 1) := by decide +kernel
theorem dRd_append_37 : decode bRd_append 37 = .ok (.aload_n 0, 1) := by decide +kernel
theorem dRd_append_38 : decode bRd_append 38 = .ok (.dup, 1) := by decide +kernel
theorem dRd_append_39 : decode bRd_append 39 = .ok (.getfield 22, 3) := by decide +kernel
theorem dRd_append_42 : decode bRd_append 42 = .ok (.iconst 1, 1) := by decide +kernel
theorem dRd_append_43 : decode bRd_append 43 = .ok (.iadd, 1) := by decide +kernel
theorem dRd_append_44 : decode bRd_append 44 = .ok (.putfield 22, 3) := by decide +kernel
theorem dRd_append_47 : decode bRd_append 47 = .ok (.iinc 2 (-8), 3) := by decide +kernel
theorem dRd_append_50 : decode bRd_append 50 = .ok (.goto (-47), 3) := by decide +kernel
theorem dRd_append_53 : decode bRd_append 53 = .ok (.return_, 1) := by decide +kernel
theorem dRd_read_0 : decode bRd_read 0 = .ok (.aload_n 2, 1) := by decide +kernel
theorem dRd_read_1 : decode bRd_read 1 = .ok (.invokevirtual 26, 3) := by decide +kernel
theorem dRd_read_4 : decode bRd_read 4 = .ok (.aload_n 0, 1) := by decide +kernel
theorem dRd_read_5 : decode bRd_read 5 = .ok (.iconst 0, 1) := by decide +kernel
theorem dRd_read_6 : decode bRd_read 6 = .ok (.putfield 31, 3) := by decide +kernel
theorem dRd_read_9 : decode bRd_read 9 = .ok (.aload_n 0, 1) := by decide +kernel
theorem dRd_read_10 : decode bRd_read 10 = .ok (.iload_n 1, 1) := by decide +kernel
theorem dRd_read_11 : decode bRd_read 11 = .ok (.putfield 34, 3) := by decide +kernel
theorem dRd_read_14 : decode bRd_read 14 = .ok (.aload_n 0, 1) := by decide +kernel
theorem dRd_read_15 : decode bRd_read 15 = .ok (.iconst 0, 1) := by decide +kernel
theorem dRd_read_16 : decode bRd_read 16 = .ok (.putfield 37, 3) := by decide +kernel
theorem dRd_read_19 : decode bRd_read 19 = .ok (.aload_n 0, 1) := by decide +kernel
theorem dRd_read_20 : decode bRd_read 20 = .ok (.invokevirtual 40, 3) := by decide +kernel
theorem dRd_read_23 : decode bRd_read 23 = .ok (.iconst 0, 1) := by decide +kernel
theorem dRd_read_24 : decode bRd_read 24 = .ok (.istore_n 3, 1) := by decide +kernel
theorem dRd_read_25 : decode bRd_read 25 = .ok (.iload_n 3, 1) := by decide +kernel
theorem dRd_read_26 : decode bRd_read 26 = .ok (.sipush 700, 3) := by decide +kernel
theorem dRd_read_29 : decode bRd_read 29 = .ok (.if_icmp .gt 63, 3) := by decide +kernel
theorem dRd_read_32 : decode bRd_read 32 = .ok (.aload_n 0, 1) := by decide +kernel
theorem dRd_read_33 : decode bRd_read 33 = .ok (.aload_n 2, 1) := by decide +kernel
theorem dRd_read_34 : decode bRd_read 34 = .ok (.invokevirtual 43, 3) := by decide +kernel
theorem dRd_read_37 : decode bRd_read 37 = .ok (.ifCond .ne 5, 3) := by decide +kernel
theorem dRd_read_40 : decode bRd_read 40 = .ok (.iconst 0, 1) := by decide +kernel
theorem dRd_read_41 : decode bRd_read 41 = .ok (.ireturn, 1) := by decide +kernel
theorem dRd_read_42 : decode bRd_read 42 = .ok (.aload_n 0, 1) := by decide +kernel
theorem dRd_read_43 : decode bRd_read 43 = .ok (.getfield 47, 3) := by decide +kernel
theorem dRd_read_46 : decode bRd_read 46 = .ok (.ifCond .ne 21, 3) := by decide +kernel
theorem dRd_read_49 : decode bRd_read 49 = .ok (.aload_n 2, 1) := by decide +kernel
theorem dRd_read_50 : decode bRd_read 50 = .ok (.invokevirtual 50, 3) := by decide +kernel
theorem dRd_read_53 : decode bRd_read 53 = .ok (.ifCond .eq 12, 3) := by decide +kernel
theorem dRd_read_56 : decode bRd_read 56 = .ok (.aload_n 0, 1) := by decide +kernel
theorem dRd_read_57 : decode bRd_read 57 = .ok (.bipush 6, 2) := by decide +kernel
theorem dRd_read_59 : decode bRd_read 59 = .ok (.invokevirtual 54, 3) := by decide +kernel
theorem dRd_read_62 : decode bRd_read 62 = .ok (.goto 4, 3) := by decide +kernel
theorem dRd_read_65 : decode bRd_read 65 = .ok (.iconst 1, 1) := by decide +kernel
theorem dRd_read_66 : decode bRd_read 66 = .ok (.ireturn, 1) := by decide +kernel
theorem dRd_read_67 : decode bRd_read 67 = .ok (.aload_n 0, 1) := by decide +kernel
theorem dRd_read_68 : decode bRd_read 68 = .ok (.bipush 59, 2) := by decide +kernel
theorem dRd_read_70 : decode bRd_read 70 = .ok (.invokevirtual 58, 3) := by decide +kernel
theorem dRd_read_73 : decode bRd_read 73 = .ok (.ifCond .ne 9, 3) := by decide +kernel
theorem dRd_read_76 : decode bRd_read 76 = .ok (.aload_n 0, 1) := by decide +kernel
theorem dRd_read_77 : decode bRd_read 77 = .ok (.iconst 1, 1) := by decide +kernel
theorem dRd_read_78 : decode bRd_read 78 = .ok (.invokevirtual 54, 3) := by decide +kernel
theorem dRd_read_81 : decode bRd_read 81 = .ok (.ireturn, 1) := by decide +kernel
theorem dRd_read_82 : decode bRd_read 82 = .ok (.aload_n 0, 1) := by decide +kernel
theorem dRd_read_83 : decode bRd_read 83 = .ok (.invokevirtual 40, 3) := by decide +kernel
theorem dRd_read_86 : decode bRd_read 86 = .ok (.iinc 3 1, 3) := by decide +kernel
theorem dRd_read_89 : decode bRd_read 89 = .ok (.goto (-64), 3) := by decide +kernel
theorem dRd_read_92 : decode bRd_read 92 = .ok (.aload_n 0, 1) := by decide +kernel
theorem dRd_read_93 : decode bRd_read 93 = .ok (.iconst 1, 1) := by decide +kernel
theorem dRd_read_94 : decode bRd_read 94 = .ok (.invokevirtual 54, 3) := by decide +kernel
theorem dRd_read_97 : decode bRd_read 97 = .ok (.ireturn, 1) := by decide +kernel
theorem dRd_fail_0 : decode bRd_fail 0 = .ok (.aload_n 0, 1) := by decide +kernel
theorem dRd_fail_1 : decode bRd_fail 1 = .ok (.iload_n 1, 1) := by decide +kernel
theorem dRd_fail_2 : decode bRd_fail 2 = .ok (.putfield 31, 3) := by decide +kernel
theorem dRd_fail_5 : decode bRd_fail 5 = .ok (.iconst 0, 1) := by decide +kernel
theorem dRd_fail_6 : decode bRd_fail 6 = .ok (.ireturn, 1) := by decide +kernel
theorem dRd_byteAt_0 : decode bRd_byteAt 0 = .ok (.iload_n 1, 1) := by decide +kernel
theorem dRd_byteAt_1 : decode bRd_byteAt 1 = .ok (.ifCond .lt 27, 3) := by decide +kernel
theorem dRd_byteAt_4 : decode bRd_byteAt 4 = .ok (.iload_n 1, 1) := by decide +kernel
theorem dRd_byteAt_5 : decode bRd_byteAt 5 = .ok (.aload_n 0, 1) := by decide +kernel
theorem dRd_byteAt_6 : decode bRd_byteAt 6 = .ok (.getfield 34, 3) := by decide +kernel
theorem dRd_byteAt_9 : decode bRd_byteAt 9 = .ok (.if_icmp .ge 19, 3) := by decide +kernel
theorem dRd_byteAt_12 : decode bRd_byteAt 12 = .ok (.iload_n 1, 1) := by decide +kernel
theorem dRd_byteAt_13 : decode bRd_byteAt 13 = .ok (.sipush 700, 3) := by decide +kernel
theorem dRd_byteAt_16 : decode bRd_byteAt 16 = .ok (.if_icmp .ge 12, 3) := by decide +kernel
theorem dRd_byteAt_19 : decode bRd_byteAt 19 = .ok (.aload_n 0, 1) := by decide +kernel
theorem dRd_byteAt_20 : decode bRd_byteAt 20 = .ok (.getfield 11, 3) := by decide +kernel
theorem dRd_byteAt_23 : decode bRd_byteAt 23 = .ok (.iload_n 1, 1) := by decide +kernel
theorem dRd_byteAt_24 : decode bRd_byteAt 24 = .ok (.baload, 1) := by decide +kernel
theorem dRd_byteAt_25 : decode bRd_byteAt 25 = .ok (.goto 4, 3) := by decide +kernel
theorem dRd_byteAt_28 : decode bRd_byteAt 28 = .ok (.iconst (-1), 1) := by decide +kernel
theorem dRd_byteAt_29 : decode bRd_byteAt 29 = .ok (.ireturn, 1) := by decide +kernel
theorem dRd_isLetter_0 : decode bRd_isLetter 0 = .ok (.iload_n 0, 1) := by decide +kernel
theorem dRd_isLetter_1 : decode bRd_isLetter 1 = .ok (.bipush 97, 2) := by decide +kernel
theorem dRd_isLetter_3 : decode bRd_isLetter 3 = .ok (.if_icmp .lt 13, 3) := by decide +kernel
theorem dRd_isLetter_6 : decode bRd_isLetter 6 = .ok (.iload_n 0, 1) := by decide +kernel
theorem dRd_isLetter_7 : decode bRd_isLetter 7 = .ok (.bipush 122, 2) := by decide +kernel
theorem dRd_isLetter_9 : decode bRd_isLetter 9 = .ok (.if_icmp .gt 7, 3) := by decide +kernel
theorem dRd_isLetter_12 : decode bRd_isLetter 12 = .ok (.iconst 1, 1) := by decide +kernel
theorem dRd_isLetter_13 : decode bRd_isLetter 13 = .ok (.goto 4, 3) := by decide +kernel
theorem dRd_isLetter_16 : decode bRd_isLetter 16 = .ok (.iconst 0, 1) := by decide +kernel
theorem dRd_isLetter_17 : decode bRd_isLetter 17 = .ok (.ireturn, 1) := by decide +kernel
theorem dRd_isDigit_0 : decode bRd_isDigit 0 = .ok (.iload_n 0, 1) := by decide +kernel
theorem dRd_isDigit_1 : decode bRd_isDigit 1 = .ok (.bipush 48, 2) := by decide +kernel
theorem dRd_isDigit_3 : decode bRd_isDigit 3 = .ok (.if_icmp .lt 13, 3) := by decide +kernel
theorem dRd_isDigit_6 : decode bRd_isDigit 6 = .ok (.iload_n 0, 1) := by decide +kernel
theorem dRd_isDigit_7 : decode bRd_isDigit 7 = .ok (.bipush 57, 2) := by decide +kernel
theorem dRd_isDigit_9 : decode bRd_isDigit 9 = .ok (.if_icmp .gt 7, 3) := by decide +kernel
theorem dRd_isDigit_12 : decode bRd_isDigit 12 = .ok (.iconst 1, 1) := by decide +kernel
theorem dRd_isDigit_13 : decode bRd_isDigit 13 = .ok (.goto 4, 3) := by decide +kernel
theorem dRd_isDigit_16 : decode bRd_isDigit 16 = .ok (.iconst 0, 1) := by decide +kernel
theorem dRd_isDigit_17 : decode bRd_isDigit 17 = .ok (.ireturn, 1) := by decide +kernel
theorem dRd_step_0 : decode bRd_step 0 = .ok (.aload_n 0, 1) := by decide +kernel
theorem dRd_step_1 : decode bRd_step 1 = .ok (.aload_n 0, 1) := by decide +kernel
theorem dRd_step_2 : decode bRd_step 2 = .ok (.getfield 37, 3) := by decide +kernel
theorem dRd_step_5 : decode bRd_step 5 = .ok (.putfield 62, 3) := by decide +kernel
theorem dRd_step_8 : decode bRd_step 8 = .ok (.aload_n 0, 1) := by decide +kernel
theorem dRd_step_9 : decode bRd_step 9 = .ok (.getfield 62, 3) := by decide +kernel
theorem dRd_step_12 : decode bRd_step 12 = .ok (.aload_n 0, 1) := by decide +kernel
theorem dRd_step_13 : decode bRd_step 13 = .ok (.getfield 34, 3) := by decide +kernel
theorem dRd_step_16 : decode bRd_step 16 = .ok (.if_icmp .ge 29, 3) := by decide +kernel
theorem dRd_step_19 : decode bRd_step 19 = .ok (.aload_n 0, 1) := by decide +kernel
theorem dRd_step_20 : decode bRd_step 20 = .ok (.aload_n 0, 1) := by decide +kernel
theorem dRd_step_21 : decode bRd_step 21 = .ok (.getfield 62, 3) := by decide +kernel
theorem dRd_step_24 : decode bRd_step 24 = .ok (.invokevirtual 65, 3) := by decide +kernel
theorem dRd_step_27 : decode bRd_step 27 = .ok (.bipush 32, 2) := by decide +kernel
theorem dRd_step_29 : decode bRd_step 29 = .ok (.if_icmp .ne 16, 3) := by decide +kernel
theorem dRd_step_32 : decode bRd_step 32 = .ok (.aload_n 0, 1) := by decide +kernel
theorem dRd_step_33 : decode bRd_step 33 = .ok (.dup, 1) := by decide +kernel
theorem dRd_step_34 : decode bRd_step 34 = .ok (.getfield 62, 3) := by decide +kernel
theorem dRd_step_37 : decode bRd_step 37 = .ok (.iconst 1, 1) := by decide +kernel
theorem dRd_step_38 : decode bRd_step 38 = .ok (.iadd, 1) := by decide +kernel
theorem dRd_step_39 : decode bRd_step 39 = .ok (.putfield 62, 3) := by decide +kernel
theorem dRd_step_42 : decode bRd_step 42 = .ok (.goto (-34), 3) := by decide +kernel
theorem dRd_step_45 : decode bRd_step 45 = .ok (.aload_n 0, 1) := by decide +kernel
theorem dRd_step_46 : decode bRd_step 46 = .ok (.aload_n 0, 1) := by decide +kernel
theorem dRd_step_47 : decode bRd_step 47 = .ok (.getfield 62, 3) := by decide +kernel
theorem dRd_step_50 : decode bRd_step 50 = .ok (.putfield 37, 3) := by decide +kernel
theorem dRd_step_53 : decode bRd_step 53 = .ok (.aload_n 0, 1) := by decide +kernel
theorem dRd_step_54 : decode bRd_step 54 = .ok (.aload_n 0, 1) := by decide +kernel
theorem dRd_step_55 : decode bRd_step 55 = .ok (.getfield 62, 3) := by decide +kernel
theorem dRd_step_58 : decode bRd_step 58 = .ok (.invokevirtual 65, 3) := by decide +kernel
theorem dRd_step_61 : decode bRd_step 61 = .ok (.istore_n 1, 1) := by decide +kernel
theorem dRd_step_62 : decode bRd_step 62 = .ok (.aload_n 0, 1) := by decide +kernel
theorem dRd_step_63 : decode bRd_step 63 = .ok (.getfield 62, 3) := by decide +kernel
theorem dRd_step_66 : decode bRd_step 66 = .ok (.aload_n 0, 1) := by decide +kernel
theorem dRd_step_67 : decode bRd_step 67 = .ok (.getfield 34, 3) := by decide +kernel
theorem dRd_step_70 : decode bRd_step 70 = .ok (.if_icmp .lt 11, 3) := by decide +kernel
theorem dRd_step_73 : decode bRd_step 73 = .ok (.aload_n 0, 1) := by decide +kernel
theorem dRd_step_74 : decode bRd_step 74 = .ok (.iconst 0, 1) := by decide +kernel
theorem dRd_step_75 : decode bRd_step 75 = .ok (.putfield 47, 3) := by decide +kernel
theorem dRd_step_78 : decode bRd_step 78 = .ok (.goto 62, 3) := by decide +kernel
theorem dRd_step_81 : decode bRd_step 81 = .ok (.iload_n 1, 1) := by decide +kernel
theorem dRd_step_82 : decode bRd_step 82 = .ok (.invokestatic 69, 3) := by decide +kernel
theorem dRd_step_85 : decode bRd_step 85 = .ok (.ifCond .eq 10, 3) := by decide +kernel
theorem dRd_step_88 : decode bRd_step 88 = .ok (.aload_n 0, 1) := by decide +kernel
theorem dRd_step_89 : decode bRd_step 89 = .ok (.invokevirtual 72, 3) := by decide +kernel
theorem dRd_step_92 : decode bRd_step 92 = .ok (.goto 48, 3) := by decide +kernel
theorem dRd_step_95 : decode bRd_step 95 = .ok (.iload_n 1, 1) := by decide +kernel
theorem dRd_step_96 : decode bRd_step 96 = .ok (.invokestatic 75, 3) := by decide +kernel
theorem dRd_step_99 : decode bRd_step 99 = .ok (.ifCond .eq 10, 3) := by decide +kernel
theorem dRd_step_102 : decode bRd_step 102 = .ok (.aload_n 0, 1) := by decide +kernel
theorem dRd_step_103 : decode bRd_step 103 = .ok (.invokevirtual 78, 3) := by decide +kernel
theorem dRd_step_106 : decode bRd_step 106 = .ok (.goto 34, 3) := by decide +kernel
theorem dRd_step_109 : decode bRd_step 109 = .ok (.aload_n 0, 1) := by decide +kernel
theorem dRd_step_110 : decode bRd_step 110 = .ok (.iload_n 1, 1) := by decide +kernel
theorem dRd_step_111 : decode bRd_step 111 = .ok (.bipush 59, 2) := by decide +kernel
theorem dRd_step_113 : decode bRd_step 113 = .ok (.if_icmp .eq 9, 3) := by decide +kernel
theorem dRd_step_116 : decode bRd_step 116 = .ok (.iload_n 1, 1) := by decide +kernel
theorem dRd_step_117 : decode bRd_step 117 = .ok (.bipush 44, 2) := by decide +kernel
theorem dRd_step_119 : decode bRd_step 119 = .ok (.if_icmp .ne 7, 3) := by decide +kernel
theorem dRd_step_122 : decode bRd_step 122 = .ok (.iconst 4, 1) := by decide +kernel
theorem dRd_step_123 : decode bRd_step 123 = .ok (.goto 4, 3) := by decide +kernel
theorem dRd_step_126 : decode bRd_step 126 = .ok (.iconst 1, 1) := by decide +kernel
theorem dRd_step_127 : decode bRd_step 127 = .ok (.putfield 47, 3) := by decide +kernel
theorem dRd_step_130 : decode bRd_step 130 = .ok (.aload_n 0, 1) := by decide +kernel
theorem dRd_step_131 : decode bRd_step 131 = .ok (.aload_n 0, 1) := by decide +kernel
theorem dRd_step_132 : decode bRd_step 132 = .ok (.getfield 62, 3) := by decide +kernel
theorem dRd_step_135 : decode bRd_step 135 = .ok (.iconst 1, 1) := by decide +kernel
theorem dRd_step_136 : decode bRd_step 136 = .ok (.iadd, 1) := by decide +kernel
theorem dRd_step_137 : decode bRd_step 137 = .ok (.putfield 37, 3) := by decide +kernel
theorem dRd_step_140 : decode bRd_step 140 = .ok (.return_, 1) := by decide +kernel
theorem dRd_stepWord_0 : decode bRd_stepWord 0 = .ok (.aload_n 0, 1) := by decide +kernel
theorem dRd_stepWord_1 : decode bRd_stepWord 1 = .ok (.getfield 37, 3) := by decide +kernel
theorem dRd_stepWord_4 : decode bRd_stepWord 4 = .ok (.aload_n 0, 1) := by decide +kernel
theorem dRd_stepWord_5 : decode bRd_stepWord 5 = .ok (.getfield 34, 3) := by decide +kernel
theorem dRd_stepWord_8 : decode bRd_stepWord 8 = .ok (.if_icmp .ge 30, 3) := by decide +kernel
theorem dRd_stepWord_11 : decode bRd_stepWord 11 = .ok (.aload_n 0, 1) := by decide +kernel
theorem dRd_stepWord_12 : decode bRd_stepWord 12 = .ok (.aload_n 0, 1) := by decide +kernel
theorem dRd_stepWord_13 : decode bRd_stepWord 13 = .ok (.getfield 37, 3) := by decide +kernel
theorem dRd_stepWord_16 : decode bRd_stepWord 16 = .ok (.invokevirtual 65, 3) := by decide +kernel
theorem dRd_stepWord_19 : decode bRd_stepWord 19 = .ok (.invokestatic 69, 3) := by decide +kernel
theorem dRd_stepWord_22 : decode bRd_stepWord 22 = .ok (.ifCond .eq 16, 3) := by decide +kernel
theorem dRd_stepWord_25 : decode bRd_stepWord 25 = .ok (.aload_n 0, 1) := by decide +kernel
theorem dRd_stepWord_26 : decode bRd_stepWord 26 = .ok (.dup, 1) := by decide +kernel
theorem dRd_stepWord_27 : decode bRd_stepWord 27 = .ok (.getfield 37, 3) := by decide +kernel
theorem dRd_stepWord_30 : decode bRd_stepWord 30 = .ok (.iconst 1, 1) := by decide +kernel
theorem dRd_stepWord_31 : decode bRd_stepWord 31 = .ok (.iadd, 1) := by decide +kernel
theorem dRd_stepWord_32 : decode bRd_stepWord 32 = .ok (.putfield 37, 3) := by decide +kernel
theorem dRd_stepWord_35 : decode bRd_stepWord 35 = .ok (.goto (-35), 3) := by decide +kernel
theorem dRd_stepWord_38 : decode bRd_stepWord 38 = .ok (.aload_n 0, 1) := by decide +kernel
theorem dRd_stepWord_39 : decode bRd_stepWord 39 = .ok (.aload_n 0, 1) := by decide +kernel
theorem dRd_stepWord_40 : decode bRd_stepWord 40 = .ok (.getfield 37, 3) := by decide +kernel
theorem dRd_stepWord_43 : decode bRd_stepWord 43 = .ok (.aload_n 0, 1) := by decide +kernel
theorem dRd_stepWord_44 : decode bRd_stepWord 44 = .ok (.getfield 62, 3) := by decide +kernel
theorem dRd_stepWord_47 : decode bRd_stepWord 47 = .ok (.isub, 1) := by decide +kernel
theorem dRd_stepWord_48 : decode bRd_stepWord 48 = .ok (.bipush 8, 2) := by decide +kernel
theorem dRd_stepWord_50 : decode bRd_stepWord 50 = .ok (.if_icmp .le 7, 3) := by decide +kernel
theorem dRd_stepWord_53 : decode bRd_stepWord 53 = .ok (.iconst 1, 1) := by decide +kernel
theorem dRd_stepWord_54 : decode bRd_stepWord 54 = .ok (.goto 4, 3) := by decide +kernel
theorem dRd_stepWord_57 : decode bRd_stepWord 57 = .ok (.iconst 2, 1) := by decide +kernel
theorem dRd_stepWord_58 : decode bRd_stepWord 58 = .ok (.putfield 47, 3) := by decide +kernel
theorem dRd_stepWord_61 : decode bRd_stepWord 61 = .ok (.return_, 1) := by decide +kernel
theorem dRd_stepWhole_0 : decode bRd_stepWhole 0 = .ok (.aload_n 0, 1) := by decide +kernel
theorem dRd_stepWhole_1 : decode bRd_stepWhole 1 = .ok (.iconst 0, 1) := by decide +kernel
theorem dRd_stepWhole_2 : decode bRd_stepWhole 2 = .ok (.putfield 81, 3) := by decide +kernel
theorem dRd_stepWhole_5 : decode bRd_stepWhole 5 = .ok (.aload_n 0, 1) := by decide +kernel
theorem dRd_stepWhole_6 : decode bRd_stepWhole 6 = .ok (.getfield 37, 3) := by decide +kernel
theorem dRd_stepWhole_9 : decode bRd_stepWhole 9 = .ok (.aload_n 0, 1) := by decide +kernel
theorem dRd_stepWhole_10 : decode bRd_stepWhole 10 = .ok (.getfield 34, 3) := by decide +kernel
theorem dRd_stepWhole_13 : decode bRd_stepWhole 13 = .ok (.if_icmp .ge 53, 3) := by decide +kernel
theorem dRd_stepWhole_16 : decode bRd_stepWhole 16 = .ok (.aload_n 0, 1) := by decide +kernel
theorem dRd_stepWhole_17 : decode bRd_stepWhole 17 = .ok (.aload_n 0, 1) := by decide +kernel
theorem dRd_stepWhole_18 : decode bRd_stepWhole 18 = .ok (.getfield 37, 3) := by decide +kernel
theorem dRd_stepWhole_21 : decode bRd_stepWhole 21 = .ok (.invokevirtual 65, 3) := by decide +kernel
theorem dRd_stepWhole_24 : decode bRd_stepWhole 24 = .ok (.invokestatic 75, 3) := by decide +kernel
theorem dRd_stepWhole_27 : decode bRd_stepWhole 27 = .ok (.ifCond .eq 39, 3) := by decide +kernel
theorem dRd_stepWhole_30 : decode bRd_stepWhole 30 = .ok (.aload_n 0, 1) := by decide +kernel
theorem dRd_stepWhole_31 : decode bRd_stepWhole 31 = .ok (.aload_n 0, 1) := by decide +kernel
theorem dRd_stepWhole_32 : decode bRd_stepWhole 32 = .ok (.getfield 81, 3) := by decide +kernel
theorem dRd_stepWhole_35 : decode bRd_stepWhole 35 = .ok (.bipush 10, 2) := by decide +kernel
theorem dRd_stepWhole_37 : decode bRd_stepWhole 37 = .ok (.imul, 1) := by decide +kernel
theorem dRd_stepWhole_38 : decode bRd_stepWhole 38 = .ok (.aload_n 0, 1) := by decide +kernel
theorem dRd_stepWhole_39 : decode bRd_stepWhole 39 = .ok (.aload_n 0, 1) := by decide +kernel
theorem dRd_stepWhole_40 : decode bRd_stepWhole 40 = .ok (.getfield 37, 3) := by decide +kernel
theorem dRd_stepWhole_43 : decode bRd_stepWhole 43 = .ok (.invokevirtual 65, 3) := by decide +kernel
theorem dRd_stepWhole_46 : decode bRd_stepWhole 46 = .ok (.iadd, 1) := by decide +kernel
theorem dRd_stepWhole_47 : decode bRd_stepWhole 47 = .ok (.bipush 48, 2) := by decide +kernel
theorem dRd_stepWhole_49 : decode bRd_stepWhole 49 = .ok (.isub, 1) := by decide +kernel
theorem dRd_stepWhole_50 : decode bRd_stepWhole 50 = .ok (.putfield 81, 3) := by decide +kernel
theorem dRd_stepWhole_53 : decode bRd_stepWhole 53 = .ok (.aload_n 0, 1) := by decide +kernel
theorem dRd_stepWhole_54 : decode bRd_stepWhole 54 = .ok (.dup, 1) := by decide +kernel
theorem dRd_stepWhole_55 : decode bRd_stepWhole 55 = .ok (.getfield 37, 3) := by decide +kernel
theorem dRd_stepWhole_58 : decode bRd_stepWhole 58 = .ok (.iconst 1, 1) := by decide +kernel
theorem dRd_stepWhole_59 : decode bRd_stepWhole 59 = .ok (.iadd, 1) := by decide +kernel
theorem dRd_stepWhole_60 : decode bRd_stepWhole 60 = .ok (.putfield 37, 3) := by decide +kernel
theorem dRd_stepWhole_63 : decode bRd_stepWhole 63 = .ok (.goto (-58), 3) := by decide +kernel
theorem dRd_stepWhole_66 : decode bRd_stepWhole 66 = .ok (.aload_n 0, 1) := by decide +kernel
theorem dRd_stepWhole_67 : decode bRd_stepWhole 67 = .ok (.aload_n 0, 1) := by decide +kernel
theorem dRd_stepWhole_68 : decode bRd_stepWhole 68 = .ok (.getfield 37, 3) := by decide +kernel
theorem dRd_stepWhole_71 : decode bRd_stepWhole 71 = .ok (.aload_n 0, 1) := by decide +kernel
theorem dRd_stepWhole_72 : decode bRd_stepWhole 72 = .ok (.getfield 62, 3) := by decide +kernel
theorem dRd_stepWhole_75 : decode bRd_stepWhole 75 = .ok (.isub, 1) := by decide +kernel
theorem dRd_stepWhole_76 : decode bRd_stepWhole 76 = .ok (.iconst 3, 1) := by decide +kernel
theorem dRd_stepWhole_77 : decode bRd_stepWhole 77 = .ok (.if_icmp .le 7, 3) := by decide +kernel
theorem dRd_stepWhole_80 : decode bRd_stepWhole 80 = .ok (.iconst 1, 1) := by decide +kernel
theorem dRd_stepWhole_81 : decode bRd_stepWhole 81 = .ok (.goto 4, 3) := by decide +kernel
theorem dRd_stepWhole_84 : decode bRd_stepWhole 84 = .ok (.iconst 3, 1) := by decide +kernel
theorem dRd_stepWhole_85 : decode bRd_stepWhole 85 = .ok (.putfield 47, 3) := by decide +kernel
theorem dRd_stepWhole_88 : decode bRd_stepWhole 88 = .ok (.return_, 1) := by decide +kernel
theorem dRd_isSign_0 : decode bRd_isSign 0 = .ok (.aload_n 0, 1) := by decide +kernel
theorem dRd_isSign_1 : decode bRd_isSign 1 = .ok (.getfield 47, 3) := by decide +kernel
theorem dRd_isSign_4 : decode bRd_isSign 4 = .ok (.iconst 4, 1) := by decide +kernel
theorem dRd_isSign_5 : decode bRd_isSign 5 = .ok (.if_icmp .ne 19, 3) := by decide +kernel
theorem dRd_isSign_8 : decode bRd_isSign 8 = .ok (.aload_n 0, 1) := by decide +kernel
theorem dRd_isSign_9 : decode bRd_isSign 9 = .ok (.aload_n 0, 1) := by decide +kernel
theorem dRd_isSign_10 : decode bRd_isSign 10 = .ok (.getfield 62, 3) := by decide +kernel
theorem dRd_isSign_13 : decode bRd_isSign 13 = .ok (.invokevirtual 65, 3) := by decide +kernel
theorem dRd_isSign_16 : decode bRd_isSign 16 = .ok (.iload_n 1, 1) := by decide +kernel
theorem dRd_isSign_17 : decode bRd_isSign 17 = .ok (.if_icmp .ne 7, 3) := by decide +kernel
theorem dRd_isSign_20 : decode bRd_isSign 20 = .ok (.iconst 1, 1) := by decide +kernel
theorem dRd_isSign_21 : decode bRd_isSign 21 = .ok (.goto 4, 3) := by decide +kernel
theorem dRd_isSign_24 : decode bRd_isSign 24 = .ok (.iconst 0, 1) := by decide +kernel
theorem dRd_isSign_25 : decode bRd_isSign 25 = .ok (.ireturn, 1) := by decide +kernel
theorem dRd_isWord_0 : decode bRd_isWord 0 = .ok (.aload_n 0, 1) := by decide +kernel
theorem dRd_isWord_1 : decode bRd_isWord 1 = .ok (.getfield 47, 3) := by decide +kernel
theorem dRd_isWord_4 : decode bRd_isWord 4 = .ok (.iconst 2, 1) := by decide +kernel
theorem dRd_isWord_5 : decode bRd_isWord 5 = .ok (.if_icmp .ne 19, 3) := by decide +kernel
theorem dRd_isWord_8 : decode bRd_isWord 8 = .ok (.aload_n 0, 1) := by decide +kernel
theorem dRd_isWord_9 : decode bRd_isWord 9 = .ok (.getfield 37, 3) := by decide +kernel
theorem dRd_isWord_12 : decode bRd_isWord 12 = .ok (.aload_n 0, 1) := by decide +kernel
theorem dRd_isWord_13 : decode bRd_isWord 13 = .ok (.getfield 62, 3) := by decide +kernel
theorem dRd_isWord_16 : decode bRd_isWord 16 = .ok (.isub, 1) := by decide +kernel
theorem dRd_isWord_17 : decode bRd_isWord 17 = .ok (.aload_n 1, 1) := by decide +kernel
theorem dRd_isWord_18 : decode bRd_isWord 18 = .ok (.invokevirtual 84, 3) := by decide +kernel
theorem dRd_isWord_21 : decode bRd_isWord 21 = .ok (.if_icmp .eq 5, 3) := by decide +kernel
theorem dRd_isWord_24 : decode bRd_isWord 24 = .ok (.iconst 0, 1) := by decide +kernel
theorem dRd_isWord_25 : decode bRd_isWord 25 = .ok (.ireturn, 1) := by decide +kernel
theorem dRd_isWord_26 : decode bRd_isWord 26 = .ok (.iconst 0, 1) := by decide +kernel
theorem dRd_isWord_27 : decode bRd_isWord 27 = .ok (.istore_n 2, 1) := by decide +kernel
theorem dRd_isWord_28 : decode bRd_isWord 28 = .ok (.iload_n 2, 1) := by decide +kernel
theorem dRd_isWord_29 : decode bRd_isWord 29 = .ok (.aload_n 1, 1) := by decide +kernel
theorem dRd_isWord_30 : decode bRd_isWord 30 = .ok (.invokevirtual 84, 3) := by decide +kernel
theorem dRd_isWord_33 : decode bRd_isWord 33 = .ok (.if_icmp .ge 29, 3) := by decide +kernel
theorem dRd_isWord_36 : decode bRd_isWord 36 = .ok (.aload_n 0, 1) := by decide +kernel
theorem dRd_isWord_37 : decode bRd_isWord 37 = .ok (.aload_n 0, 1) := by decide +kernel
theorem dRd_isWord_38 : decode bRd_isWord 38 = .ok (.getfield 62, 3) := by decide +kernel
theorem dRd_isWord_41 : decode bRd_isWord 41 = .ok (.iload_n 2, 1) := by decide +kernel
theorem dRd_isWord_42 : decode bRd_isWord 42 = .ok (.iadd, 1) := by decide +kernel
theorem dRd_isWord_43 : decode bRd_isWord 43 = .ok (.invokevirtual 65, 3) := by decide +kernel
theorem dRd_isWord_46 : decode bRd_isWord 46 = .ok (.aload_n 1, 1) := by decide +kernel
theorem dRd_isWord_47 : decode bRd_isWord 47 = .ok (.iload_n 2, 1) := by decide +kernel
theorem dRd_isWord_48 : decode bRd_isWord 48 = .ok (.invokevirtual 89, 3) := by decide +kernel
theorem dRd_isWord_51 : decode bRd_isWord 51 = .ok (.if_icmp .eq 5, 3) := by decide +kernel
theorem dRd_isWord_54 : decode bRd_isWord 54 = .ok (.iconst 0, 1) := by decide +kernel
theorem dRd_isWord_55 : decode bRd_isWord 55 = .ok (.ireturn, 1) := by decide +kernel
theorem dRd_isWord_56 : decode bRd_isWord 56 = .ok (.iinc 2 1, 3) := by decide +kernel
theorem dRd_isWord_59 : decode bRd_isWord 59 = .ok (.goto (-31), 3) := by decide +kernel
theorem dRd_isWord_62 : decode bRd_isWord 62 = .ok (.iconst 1, 1) := by decide +kernel
theorem dRd_isWord_63 : decode bRd_isWord 63 = .ok (.ireturn, 1) := by decide +kernel
theorem dRd_isName_0 : decode bRd_isName 0 = .ok (.aload_n 0, 1) := by decide +kernel
theorem dRd_isName_1 : decode bRd_isName 1 = .ok (.getfield 47, 3) := by decide +kernel
theorem dRd_isName_4 : decode bRd_isName 4 = .ok (.iconst 2, 1) := by decide +kernel
theorem dRd_isName_5 : decode bRd_isName 5 = .ok (.if_icmp .ne 70, 3) := by decide +kernel
theorem dRd_isName_8 : decode bRd_isName 8 = .ok (.aload_n 0, 1) := by decide +kernel
theorem dRd_isName_9 : decode bRd_isName 9 = .ok (.ldc 93, 2) := by decide +kernel
theorem dRd_isName_11 : decode bRd_isName 11 = .ok (.invokevirtual 95, 3) := by decide +kernel
theorem dRd_isName_14 : decode bRd_isName 14 = .ok (.ifCond .ne 61, 3) := by decide +kernel
theorem dRd_isName_17 : decode bRd_isName 17 = .ok (.aload_n 0, 1) := by decide +kernel
theorem dRd_isName_18 : decode bRd_isName 18 = .ok (.ldc 99, 2) := by decide +kernel
theorem dRd_isName_20 : decode bRd_isName 20 = .ok (.invokevirtual 95, 3) := by decide +kernel
theorem dRd_isName_23 : decode bRd_isName 23 = .ok (.ifCond .ne 52, 3) := by decide +kernel
theorem dRd_isName_26 : decode bRd_isName 26 = .ok (.aload_n 0, 1) := by decide +kernel
theorem dRd_isName_27 : decode bRd_isName 27 = .ok (.ldc 101, 2) := by decide +kernel
theorem dRd_isName_29 : decode bRd_isName 29 = .ok (.invokevirtual 95, 3) := by decide +kernel
theorem dRd_isName_32 : decode bRd_isName 32 = .ok (.ifCond .ne 43, 3) := by decide +kernel
theorem dRd_isName_35 : decode bRd_isName 35 = .ok (.aload_n 0, 1) := by decide +kernel
theorem dRd_isName_36 : decode bRd_isName 36 = .ok (.ldc 103, 2) := by decide +kernel
theorem dRd_isName_38 : decode bRd_isName 38 = .ok (.invokevirtual 95, 3) := by decide +kernel
theorem dRd_isName_41 : decode bRd_isName 41 = .ok (.ifCond .ne 34, 3) := by decide +kernel
theorem dRd_isName_44 : decode bRd_isName 44 = .ok (.aload_n 0, 1) := by decide +kernel
theorem dRd_isName_45 : decode bRd_isName 45 = .ok (.ldc 105, 2) := by decide +kernel
theorem dRd_isName_47 : decode bRd_isName 47 = .ok (.invokevirtual 95, 3) := by decide +kernel
theorem dRd_isName_50 : decode bRd_isName 50 = .ok (.ifCond .ne 25, 3) := by decide +kernel
theorem dRd_isName_53 : decode bRd_isName 53 = .ok (.aload_n 0, 1) := by decide +kernel
theorem dRd_isName_54 : decode bRd_isName 54 = .ok (.ldc 107, 2) := by decide +kernel
theorem dRd_isName_56 : decode bRd_isName 56 = .ok (.invokevirtual 95, 3) := by decide +kernel
theorem dRd_isName_59 : decode bRd_isName 59 = .ok (.ifCond .ne 16, 3) := by decide +kernel
theorem dRd_isName_62 : decode bRd_isName 62 = .ok (.aload_n 0, 1) := by decide +kernel
theorem dRd_isName_63 : decode bRd_isName 63 = .ok (.ldc 109, 2) := by decide +kernel
theorem dRd_isName_65 : decode bRd_isName 65 = .ok (.invokevirtual 95, 3) := by decide +kernel
theorem dRd_isName_68 : decode bRd_isName 68 = .ok (.ifCond .ne 7, 3) := by decide +kernel
theorem dRd_isName_71 : decode bRd_isName 71 = .ok (.iconst 1, 1) := by decide +kernel
theorem dRd_isName_72 : decode bRd_isName 72 = .ok (.goto 4, 3) := by decide +kernel
theorem dRd_isName_75 : decode bRd_isName 75 = .ok (.iconst 0, 1) := by decide +kernel
theorem dRd_isName_76 : decode bRd_isName 76 = .ok (.ireturn, 1) := by decide +kernel
theorem dRd_nameCode_0 : decode bRd_nameCode 0 = .ok (.lconst 0, 1) := by decide +kernel
theorem dRd_nameCode_1 : decode bRd_nameCode 1 = .ok (.lstore_n 1, 1) := by decide +kernel
theorem dRd_nameCode_2 : decode bRd_nameCode 2 = .ok (.aload_n 0, 1) := by decide +kernel
theorem dRd_nameCode_3 : decode bRd_nameCode 3 = .ok (.getfield 62, 3) := by decide +kernel
theorem dRd_nameCode_6 : decode bRd_nameCode 6 = .ok (.istore_n 3, 1) := by decide +kernel
theorem dRd_nameCode_7 : decode bRd_nameCode 7 = .ok (.iload_n 3, 1) := by decide +kernel
theorem dRd_nameCode_8 : decode bRd_nameCode 8 = .ok (.aload_n 0, 1) := by decide +kernel
theorem dRd_nameCode_9 : decode bRd_nameCode 9 = .ok (.getfield 37, 3) := by decide +kernel
theorem dRd_nameCode_12 : decode bRd_nameCode 12 = .ok (.if_icmp .ge 27, 3) := by decide +kernel
theorem dRd_nameCode_15 : decode bRd_nameCode 15 = .ok (.lload_n 1, 1) := by decide +kernel
theorem dRd_nameCode_16 : decode bRd_nameCode 16 = .ok (.ldc2_w 111, 3) := by decide +kernel
theorem dRd_nameCode_19 : decode bRd_nameCode 19 = .ok (.lmul, 1) := by decide +kernel
theorem dRd_nameCode_20 : decode bRd_nameCode 20 = .ok (.aload_n 0, 1) := by decide +kernel
theorem dRd_nameCode_21 : decode bRd_nameCode 21 = .ok (.iload_n 3, 1) := by decide +kernel
theorem dRd_nameCode_22 : decode bRd_nameCode 22 = .ok (.invokevirtual 65, 3) := by decide +kernel
theorem dRd_nameCode_25 : decode bRd_nameCode 25 = .ok (.bipush 97, 2) := by decide +kernel
theorem dRd_nameCode_27 : decode bRd_nameCode 27 = .ok (.isub, 1) := by decide +kernel
theorem dRd_nameCode_28 : decode bRd_nameCode 28 = .ok (.iconst 1, 1) := by decide +kernel
theorem dRd_nameCode_29 : decode bRd_nameCode 29 = .ok (.iadd, 1) := by decide +kernel
theorem dRd_nameCode_30 : decode bRd_nameCode 30 = .ok (.i2l, 1) := by decide +kernel
theorem dRd_nameCode_31 : decode bRd_nameCode 31 = .ok (.ladd, 1) := by decide +kernel
theorem dRd_nameCode_32 : decode bRd_nameCode 32 = .ok (.lstore_n 1, 1) := by decide +kernel
theorem dRd_nameCode_33 : decode bRd_nameCode 33 = .ok (.iinc 3 1, 3) := by decide +kernel
theorem dRd_nameCode_36 : decode bRd_nameCode 36 = .ok (.goto (-29), 3) := by decide +kernel
theorem dRd_nameCode_39 : decode bRd_nameCode 39 = .ok (.lload_n 1, 1) := by decide +kernel
theorem dRd_nameCode_40 : decode bRd_nameCode 40 = .ok (.lreturn, 1) := by decide +kernel
theorem dRd_placeOf_0 : decode bRd_placeOf 0 = .ok (.iconst 0, 1) := by decide +kernel
theorem dRd_placeOf_1 : decode bRd_placeOf 1 = .ok (.istore 4, 2) := by decide +kernel
theorem dRd_placeOf_3 : decode bRd_placeOf 3 = .ok (.iload 4, 2) := by decide +kernel
theorem dRd_placeOf_5 : decode bRd_placeOf 5 = .ok (.iload_n 3, 1) := by decide +kernel
theorem dRd_placeOf_6 : decode bRd_placeOf 6 = .ok (.if_icmp .ge 28, 3) := by decide +kernel
theorem dRd_placeOf_9 : decode bRd_placeOf 9 = .ok (.iload 4, 2) := by decide +kernel
theorem dRd_placeOf_11 : decode bRd_placeOf 11 = .ok (.aload_n 2, 1) := by decide +kernel
theorem dRd_placeOf_12 : decode bRd_placeOf 12 = .ok (.arraylength, 1) := by decide +kernel
theorem dRd_placeOf_13 : decode bRd_placeOf 13 = .ok (.if_icmp .ge 21, 3) := by decide +kernel
theorem dRd_placeOf_16 : decode bRd_placeOf 16 = .ok (.aload_n 2, 1) := by decide +kernel
theorem dRd_placeOf_17 : decode bRd_placeOf 17 = .ok (.iload 4, 2) := by decide +kernel
theorem dRd_placeOf_19 : decode bRd_placeOf 19 = .ok (.laload, 1) := by decide +kernel
theorem dRd_placeOf_20 : decode bRd_placeOf 20 = .ok (.lload_n 0, 1) := by decide +kernel
theorem dRd_placeOf_21 : decode bRd_placeOf 21 = .ok (.lcmp, 1) := by decide +kernel
theorem dRd_placeOf_22 : decode bRd_placeOf 22 = .ok (.ifCond .ne 6, 3) := by decide +kernel
theorem dRd_placeOf_25 : decode bRd_placeOf 25 = .ok (.iload 4, 2) := by decide +kernel
theorem dRd_placeOf_27 : decode bRd_placeOf 27 = .ok (.ireturn, 1) := by decide +kernel
theorem dRd_placeOf_28 : decode bRd_placeOf 28 = .ok (.iinc 4 1, 3) := by decide +kernel
theorem dRd_placeOf_31 : decode bRd_placeOf 31 = .ok (.goto (-28), 3) := by decide +kernel
theorem dRd_placeOf_34 : decode bRd_placeOf 34 = .ok (.iconst (-1), 1) := by decide +kernel
theorem dRd_placeOf_35 : decode bRd_placeOf 35 = .ok (.ireturn, 1) := by decide +kernel
theorem dRd_readLine_0 : decode bRd_readLine 0 = .ok (.aload_n 0, 1) := by decide +kernel
theorem dRd_readLine_1 : decode bRd_readLine 1 = .ok (.ldc 93, 2) := by decide +kernel
theorem dRd_readLine_3 : decode bRd_readLine 3 = .ok (.invokevirtual 95, 3) := by decide +kernel
theorem dRd_readLine_6 : decode bRd_readLine 6 = .ok (.ifCond .eq 24, 3) := by decide +kernel
theorem dRd_readLine_9 : decode bRd_readLine 9 = .ok (.aload_n 1, 1) := by decide +kernel
theorem dRd_readLine_10 : decode bRd_readLine 10 = .ok (.getfield 113, 3) := by decide +kernel
theorem dRd_readLine_13 : decode bRd_readLine 13 = .ok (.ifCond .le 11, 3) := by decide +kernel
theorem dRd_readLine_16 : decode bRd_readLine 16 = .ok (.aload_n 0, 1) := by decide +kernel
theorem dRd_readLine_17 : decode bRd_readLine 17 = .ok (.iconst 3, 1) := by decide +kernel
theorem dRd_readLine_18 : decode bRd_readLine 18 = .ok (.invokevirtual 54, 3) := by decide +kernel
theorem dRd_readLine_21 : decode bRd_readLine 21 = .ok (.goto 8, 3) := by decide +kernel
theorem dRd_readLine_24 : decode bRd_readLine 24 = .ok (.aload_n 0, 1) := by decide +kernel
theorem dRd_readLine_25 : decode bRd_readLine 25 = .ok (.aload_n 1, 1) := by decide +kernel
theorem dRd_readLine_26 : decode bRd_readLine 26 = .ok (.invokevirtual 116, 3) := by decide +kernel
theorem dRd_readLine_29 : decode bRd_readLine 29 = .ok (.ireturn, 1) := by decide +kernel
theorem dRd_readLine_30 : decode bRd_readLine 30 = .ok (.aload_n 0, 1) := by decide +kernel
theorem dRd_readLine_31 : decode bRd_readLine 31 = .ok (.ldc 99, 2) := by decide +kernel
theorem dRd_readLine_33 : decode bRd_readLine 33 = .ok (.invokevirtual 95, 3) := by decide +kernel
theorem dRd_readLine_36 : decode bRd_readLine 36 = .ok (.ifCond .eq 25, 3) := by decide +kernel
theorem dRd_readLine_39 : decode bRd_readLine 39 = .ok (.aload_n 1, 1) := by decide +kernel
theorem dRd_readLine_40 : decode bRd_readLine 40 = .ok (.getfield 119, 3) := by decide +kernel
theorem dRd_readLine_43 : decode bRd_readLine 43 = .ok (.iconst (-1), 1) := by decide +kernel
theorem dRd_readLine_44 : decode bRd_readLine 44 = .ok (.if_icmp .eq 11, 3) := by decide +kernel
theorem dRd_readLine_47 : decode bRd_readLine 47 = .ok (.aload_n 0, 1) := by decide +kernel
theorem dRd_readLine_48 : decode bRd_readLine 48 = .ok (.iconst 3, 1) := by decide +kernel
theorem dRd_readLine_49 : decode bRd_readLine 49 = .ok (.invokevirtual 54, 3) := by decide +kernel
theorem dRd_readLine_52 : decode bRd_readLine 52 = .ok (.goto 8, 3) := by decide +kernel
theorem dRd_readLine_55 : decode bRd_readLine 55 = .ok (.aload_n 0, 1) := by decide +kernel
theorem dRd_readLine_56 : decode bRd_readLine 56 = .ok (.aload_n 1, 1) := by decide +kernel
theorem dRd_readLine_57 : decode bRd_readLine 57 = .ok (.invokevirtual 121, 3) := by decide +kernel
theorem dRd_readLine_60 : decode bRd_readLine 60 = .ok (.ireturn, 1) := by decide +kernel
theorem dRd_readLine_61 : decode bRd_readLine 61 = .ok (.aload_n 0, 1) := by decide +kernel
theorem dRd_readLine_62 : decode bRd_readLine 62 = .ok (.ldc 101, 2) := by decide +kernel
theorem dRd_readLine_64 : decode bRd_readLine 64 = .ok (.invokevirtual 95, 3) := by decide +kernel
theorem dRd_readLine_67 : decode bRd_readLine 67 = .ok (.ifCond .eq 24, 3) := by decide +kernel
theorem dRd_readLine_70 : decode bRd_readLine 70 = .ok (.aload_n 1, 1) := by decide +kernel
theorem dRd_readLine_71 : decode bRd_readLine 71 = .ok (.getfield 124, 3) := by decide +kernel
theorem dRd_readLine_74 : decode bRd_readLine 74 = .ok (.ifCond .le 11, 3) := by decide +kernel
theorem dRd_readLine_77 : decode bRd_readLine 77 = .ok (.aload_n 0, 1) := by decide +kernel
theorem dRd_readLine_78 : decode bRd_readLine 78 = .ok (.iconst 3, 1) := by decide +kernel
theorem dRd_readLine_79 : decode bRd_readLine 79 = .ok (.invokevirtual 54, 3) := by decide +kernel
theorem dRd_readLine_82 : decode bRd_readLine 82 = .ok (.goto 8, 3) := by decide +kernel
theorem dRd_readLine_85 : decode bRd_readLine 85 = .ok (.aload_n 0, 1) := by decide +kernel
theorem dRd_readLine_86 : decode bRd_readLine 86 = .ok (.aload_n 1, 1) := by decide +kernel
theorem dRd_readLine_87 : decode bRd_readLine 87 = .ok (.invokevirtual 127, 3) := by decide +kernel
theorem dRd_readLine_90 : decode bRd_readLine 90 = .ok (.ireturn, 1) := by decide +kernel
theorem dRd_readLine_91 : decode bRd_readLine 91 = .ok (.aload_n 0, 1) := by decide +kernel
theorem dRd_readLine_92 : decode bRd_readLine 92 = .ok (.ldc 103, 2) := by decide +kernel
theorem dRd_readLine_94 : decode bRd_readLine 94 = .ok (.invokevirtual 95, 3) := by decide +kernel
theorem dRd_readLine_97 : decode bRd_readLine 97 = .ok (.ifCond .eq 24, 3) := by decide +kernel
theorem dRd_readLine_100 : decode bRd_readLine 100 = .ok (.aload_n 1, 1) := by decide +kernel
theorem dRd_readLine_101 : decode bRd_readLine 101 = .ok (.getfield 130, 3) := by decide +kernel
theorem dRd_readLine_104 : decode bRd_readLine 104 = .ok (.ifCond .le 11, 3) := by decide +kernel
theorem dRd_readLine_107 : decode bRd_readLine 107 = .ok (.aload_n 0, 1) := by decide +kernel
theorem dRd_readLine_108 : decode bRd_readLine 108 = .ok (.iconst 3, 1) := by decide +kernel
theorem dRd_readLine_109 : decode bRd_readLine 109 = .ok (.invokevirtual 54, 3) := by decide +kernel
theorem dRd_readLine_112 : decode bRd_readLine 112 = .ok (.goto 8, 3) := by decide +kernel
theorem dRd_readLine_115 : decode bRd_readLine 115 = .ok (.aload_n 0, 1) := by decide +kernel
theorem dRd_readLine_116 : decode bRd_readLine 116 = .ok (.aload_n 1, 1) := by decide +kernel
theorem dRd_readLine_117 : decode bRd_readLine 117 = .ok (.invokevirtual 133, 3) := by decide +kernel
theorem dRd_readLine_120 : decode bRd_readLine 120 = .ok (.ireturn, 1) := by decide +kernel
theorem dRd_readLine_121 : decode bRd_readLine 121 = .ok (.aload_n 0, 1) := by decide +kernel
theorem dRd_readLine_122 : decode bRd_readLine 122 = .ok (.ldc 105, 2) := by decide +kernel
theorem dRd_readLine_124 : decode bRd_readLine 124 = .ok (.invokevirtual 95, 3) := by decide +kernel
theorem dRd_readLine_127 : decode bRd_readLine 127 = .ok (.ifCond .eq 24, 3) := by decide +kernel
theorem dRd_readLine_130 : decode bRd_readLine 130 = .ok (.aload_n 1, 1) := by decide +kernel
theorem dRd_readLine_131 : decode bRd_readLine 131 = .ok (.getfield 136, 3) := by decide +kernel
theorem dRd_readLine_134 : decode bRd_readLine 134 = .ok (.ifCond .le 11, 3) := by decide +kernel
theorem dRd_readLine_137 : decode bRd_readLine 137 = .ok (.aload_n 0, 1) := by decide +kernel
theorem dRd_readLine_138 : decode bRd_readLine 138 = .ok (.iconst 3, 1) := by decide +kernel
theorem dRd_readLine_139 : decode bRd_readLine 139 = .ok (.invokevirtual 54, 3) := by decide +kernel
theorem dRd_readLine_142 : decode bRd_readLine 142 = .ok (.goto 8, 3) := by decide +kernel
theorem dRd_readLine_145 : decode bRd_readLine 145 = .ok (.aload_n 0, 1) := by decide +kernel
theorem dRd_readLine_146 : decode bRd_readLine 146 = .ok (.aload_n 1, 1) := by decide +kernel
theorem dRd_readLine_147 : decode bRd_readLine 147 = .ok (.invokevirtual 139, 3) := by decide +kernel
theorem dRd_readLine_150 : decode bRd_readLine 150 = .ok (.ireturn, 1) := by decide +kernel
theorem dRd_readLine_151 : decode bRd_readLine 151 = .ok (.aload_n 0, 1) := by decide +kernel
theorem dRd_readLine_152 : decode bRd_readLine 152 = .ok (.ldc 107, 2) := by decide +kernel
theorem dRd_readLine_154 : decode bRd_readLine 154 = .ok (.invokevirtual 95, 3) := by decide +kernel
theorem dRd_readLine_157 : decode bRd_readLine 157 = .ok (.ifCond .eq 29, 3) := by decide +kernel
theorem dRd_readLine_160 : decode bRd_readLine 160 = .ok (.aload_n 1, 1) := by decide +kernel
theorem dRd_readLine_161 : decode bRd_readLine 161 = .ok (.getfield 142, 3) := by decide +kernel
theorem dRd_readLine_164 : decode bRd_readLine 164 = .ok (.iconst 5, 1) := by decide +kernel
theorem dRd_readLine_165 : decode bRd_readLine 165 = .ok (.if_icmp .lt 11, 3) := by decide +kernel
theorem dRd_readLine_168 : decode bRd_readLine 168 = .ok (.aload_n 0, 1) := by decide +kernel
theorem dRd_readLine_169 : decode bRd_readLine 169 = .ok (.iconst 5, 1) := by decide +kernel
theorem dRd_readLine_170 : decode bRd_readLine 170 = .ok (.invokevirtual 54, 3) := by decide +kernel
theorem dRd_readLine_173 : decode bRd_readLine 173 = .ok (.goto 12, 3) := by decide +kernel
theorem dRd_readLine_176 : decode bRd_readLine 176 = .ok (.aload_n 0, 1) := by decide +kernel
theorem dRd_readLine_177 : decode bRd_readLine 177 = .ok (.aload_n 1, 1) := by decide +kernel
theorem dRd_readLine_178 : decode bRd_readLine 178 = .ok (.aload_n 1, 1) := by decide +kernel
theorem dRd_readLine_179 : decode bRd_readLine 179 = .ok (.getfield 142, 3) := by decide +kernel
theorem dRd_readLine_182 : decode bRd_readLine 182 = .ok (.invokevirtual 145, 3) := by decide +kernel
theorem dRd_readLine_185 : decode bRd_readLine 185 = .ok (.ireturn, 1) := by decide +kernel
theorem dRd_readLine_186 : decode bRd_readLine 186 = .ok (.aload_n 0, 1) := by decide +kernel
theorem dRd_readLine_187 : decode bRd_readLine 187 = .ok (.ldc 109, 2) := by decide +kernel
theorem dRd_readLine_189 : decode bRd_readLine 189 = .ok (.invokevirtual 95, 3) := by decide +kernel
theorem dRd_readLine_192 : decode bRd_readLine 192 = .ok (.ifCond .eq 51, 3) := by decide +kernel
theorem dRd_readLine_195 : decode bRd_readLine 195 = .ok (.aload_n 1, 1) := by decide +kernel
theorem dRd_readLine_196 : decode bRd_readLine 196 = .ok (.getfield 149, 3) := by decide +kernel
theorem dRd_readLine_199 : decode bRd_readLine 199 = .ok (.iconst 4, 1) := by decide +kernel
theorem dRd_readLine_200 : decode bRd_readLine 200 = .ok (.if_icmp .lt 11, 3) := by decide +kernel
theorem dRd_readLine_203 : decode bRd_readLine 203 = .ok (.aload_n 0, 1) := by decide +kernel
theorem dRd_readLine_204 : decode bRd_readLine 204 = .ok (.iconst 5, 1) := by decide +kernel
theorem dRd_readLine_205 : decode bRd_readLine 205 = .ok (.invokevirtual 54, 3) := by decide +kernel
theorem dRd_readLine_208 : decode bRd_readLine 208 = .ok (.goto 34, 3) := by decide +kernel
theorem dRd_readLine_211 : decode bRd_readLine 211 = .ok (.aload_n 0, 1) := by decide +kernel
theorem dRd_readLine_212 : decode bRd_readLine 212 = .ok (.aload_n 1, 1) := by decide +kernel
theorem dRd_readLine_213 : decode bRd_readLine 213 = .ok (.aload_n 1, 1) := by decide +kernel
theorem dRd_readLine_214 : decode bRd_readLine 214 = .ok (.getfield 149, 3) := by decide +kernel
theorem dRd_readLine_217 : decode bRd_readLine 217 = .ok (.invokevirtual 152, 3) := by decide +kernel
theorem dRd_readLine_220 : decode bRd_readLine 220 = .ok (.ifCond .eq 21, 3) := by decide +kernel
theorem dRd_readLine_223 : decode bRd_readLine 223 = .ok (.aload_n 0, 1) := by decide +kernel
theorem dRd_readLine_224 : decode bRd_readLine 224 = .ok (.aload_n 1, 1) := by decide +kernel
theorem dRd_readLine_225 : decode bRd_readLine 225 = .ok (.aload_n 1, 1) := by decide +kernel
theorem dRd_readLine_226 : decode bRd_readLine 226 = .ok (.getfield 149, 3) := by decide +kernel
theorem dRd_readLine_229 : decode bRd_readLine 229 = .ok (.iconst 1, 1) := by decide +kernel
theorem dRd_readLine_230 : decode bRd_readLine 230 = .ok (.isub, 1) := by decide +kernel
theorem dRd_readLine_231 : decode bRd_readLine 231 = .ok (.invokevirtual 155, 3) := by decide +kernel
theorem dRd_readLine_234 : decode bRd_readLine 234 = .ok (.ifCond .eq 7, 3) := by decide +kernel
theorem dRd_readLine_237 : decode bRd_readLine 237 = .ok (.iconst 1, 1) := by decide +kernel
theorem dRd_readLine_238 : decode bRd_readLine 238 = .ok (.goto 4, 3) := by decide +kernel
theorem dRd_readLine_241 : decode bRd_readLine 241 = .ok (.iconst 0, 1) := by decide +kernel
theorem dRd_readLine_242 : decode bRd_readLine 242 = .ok (.ireturn, 1) := by decide +kernel
theorem dRd_readLine_243 : decode bRd_readLine 243 = .ok (.aload_n 0, 1) := by decide +kernel
theorem dRd_readLine_244 : decode bRd_readLine 244 = .ok (.iconst 1, 1) := by decide +kernel
theorem dRd_readLine_245 : decode bRd_readLine 245 = .ok (.invokevirtual 54, 3) := by decide +kernel
theorem dRd_readLine_248 : decode bRd_readLine 248 = .ok (.ireturn, 1) := by decide +kernel
theorem dRd_readDrum_0 : decode bRd_readDrum 0 = .ok (.aload_n 0, 1) := by decide +kernel
theorem dRd_readDrum_1 : decode bRd_readDrum 1 = .ok (.invokevirtual 40, 3) := by decide +kernel
theorem dRd_readDrum_4 : decode bRd_readDrum 4 = .ok (.aload_n 0, 1) := by decide +kernel
theorem dRd_readDrum_5 : decode bRd_readDrum 5 = .ok (.ldc 158, 2) := by decide +kernel
theorem dRd_readDrum_7 : decode bRd_readDrum 7 = .ok (.invokevirtual 159, 3) := by decide +kernel
theorem dRd_readDrum_10 : decode bRd_readDrum 10 = .ok (.ifCond .eq 15, 3) := by decide +kernel
theorem dRd_readDrum_13 : decode bRd_readDrum 13 = .ok (.aload_n 0, 1) := by decide +kernel
theorem dRd_readDrum_14 : decode bRd_readDrum 14 = .ok (.bipush 20, 2) := by decide +kernel
theorem dRd_readDrum_16 : decode bRd_readDrum 16 = .ok (.sipush 999, 3) := by decide +kernel
theorem dRd_readDrum_19 : decode bRd_readDrum 19 = .ok (.invokevirtual 162, 3) := by decide +kernel
theorem dRd_readDrum_22 : decode bRd_readDrum 22 = .ok (.ifCond .ne 5, 3) := by decide +kernel
theorem dRd_readDrum_25 : decode bRd_readDrum 25 = .ok (.iconst 0, 1) := by decide +kernel
theorem dRd_readDrum_26 : decode bRd_readDrum 26 = .ok (.ireturn, 1) := by decide +kernel
theorem dRd_readDrum_27 : decode bRd_readDrum 27 = .ok (.aload_n 1, 1) := by decide +kernel
theorem dRd_readDrum_28 : decode bRd_readDrum 28 = .ok (.aload_n 0, 1) := by decide +kernel
theorem dRd_readDrum_29 : decode bRd_readDrum 29 = .ok (.getfield 81, 3) := by decide +kernel
theorem dRd_readDrum_32 : decode bRd_readDrum 32 = .ok (.putfield 113, 3) := by decide +kernel
theorem dRd_readDrum_35 : decode bRd_readDrum 35 = .ok (.aload_n 0, 1) := by decide +kernel
theorem dRd_readDrum_36 : decode bRd_readDrum 36 = .ok (.invokevirtual 40, 3) := by decide +kernel
theorem dRd_readDrum_39 : decode bRd_readDrum 39 = .ok (.aload_n 0, 1) := by decide +kernel
theorem dRd_readDrum_40 : decode bRd_readDrum 40 = .ok (.ldc 166, 2) := by decide +kernel
theorem dRd_readDrum_42 : decode bRd_readDrum 42 = .ok (.invokevirtual 159, 3) := by decide +kernel
theorem dRd_readDrum_45 : decode bRd_readDrum 45 = .ok (.ifCond .eq 15, 3) := by decide +kernel
theorem dRd_readDrum_48 : decode bRd_readDrum 48 = .ok (.aload_n 0, 1) := by decide +kernel
theorem dRd_readDrum_49 : decode bRd_readDrum 49 = .ok (.bipush 10, 2) := by decide +kernel
theorem dRd_readDrum_51 : decode bRd_readDrum 51 = .ok (.sipush 200, 3) := by decide +kernel
theorem dRd_readDrum_54 : decode bRd_readDrum 54 = .ok (.invokevirtual 162, 3) := by decide +kernel
theorem dRd_readDrum_57 : decode bRd_readDrum 57 = .ok (.ifCond .ne 5, 3) := by decide +kernel
theorem dRd_readDrum_60 : decode bRd_readDrum 60 = .ok (.iconst 0, 1) := by decide +kernel
theorem dRd_readDrum_61 : decode bRd_readDrum 61 = .ok (.ireturn, 1) := by decide +kernel
theorem dRd_readDrum_62 : decode bRd_readDrum 62 = .ok (.aload_n 1, 1) := by decide +kernel
theorem dRd_readDrum_63 : decode bRd_readDrum 63 = .ok (.aload_n 0, 1) := by decide +kernel
theorem dRd_readDrum_64 : decode bRd_readDrum 64 = .ok (.getfield 81, 3) := by decide +kernel
theorem dRd_readDrum_67 : decode bRd_readDrum 67 = .ok (.putfield 168, 3) := by decide +kernel
theorem dRd_readDrum_70 : decode bRd_readDrum 70 = .ok (.aload_n 0, 1) := by decide +kernel
theorem dRd_readDrum_71 : decode bRd_readDrum 71 = .ok (.invokevirtual 40, 3) := by decide +kernel
theorem dRd_readDrum_74 : decode bRd_readDrum 74 = .ok (.iconst 1, 1) := by decide +kernel
theorem dRd_readDrum_75 : decode bRd_readDrum 75 = .ok (.ireturn, 1) := by decide +kernel
theorem dRd_readSieve_0 : decode bRd_readSieve 0 = .ok (.aload_n 0, 1) := by decide +kernel
theorem dRd_readSieve_1 : decode bRd_readSieve 1 = .ok (.invokevirtual 40, 3) := by decide +kernel
theorem dRd_readSieve_4 : decode bRd_readSieve 4 = .ok (.aload_n 0, 1) := by decide +kernel
theorem dRd_readSieve_5 : decode bRd_readSieve 5 = .ok (.invokevirtual 170, 3) := by decide +kernel
theorem dRd_readSieve_8 : decode bRd_readSieve 8 = .ok (.ifCond .ne 9, 3) := by decide +kernel
theorem dRd_readSieve_11 : decode bRd_readSieve 11 = .ok (.aload_n 0, 1) := by decide +kernel
theorem dRd_readSieve_12 : decode bRd_readSieve 12 = .ok (.iconst 1, 1) := by decide +kernel
theorem dRd_readSieve_13 : decode bRd_readSieve 13 = .ok (.invokevirtual 54, 3) := by decide +kernel
theorem dRd_readSieve_16 : decode bRd_readSieve 16 = .ok (.ireturn, 1) := by decide +kernel
theorem dRd_readSieve_17 : decode bRd_readSieve 17 = .ok (.aload_n 0, 1) := by decide +kernel
theorem dRd_readSieve_18 : decode bRd_readSieve 18 = .ok (.invokevirtual 173, 3) := by decide +kernel
theorem dRd_readSieve_21 : decode bRd_readSieve 21 = .ok (.aload_n 0, 1) := by decide +kernel
theorem dRd_readSieve_22 : decode bRd_readSieve 22 = .ok (.getfield 15, 3) := by decide +kernel
theorem dRd_readSieve_25 : decode bRd_readSieve 25 = .ok (.aload_n 1, 1) := by decide +kernel
theorem dRd_readSieve_26 : decode bRd_readSieve 26 = .ok (.getfield 142, 3) := by decide +kernel
theorem dRd_readSieve_29 : decode bRd_readSieve 29 = .ok (.invokestatic 177, 3) := by decide +kernel
theorem dRd_readSieve_32 : decode bRd_readSieve 32 = .ok (.istore_n 2, 1) := by decide +kernel
theorem dRd_readSieve_33 : decode bRd_readSieve 33 = .ok (.iload_n 2, 1) := by decide +kernel
theorem dRd_readSieve_34 : decode bRd_readSieve 34 = .ok (.iconst (-1), 1) := by decide +kernel
theorem dRd_readSieve_35 : decode bRd_readSieve 35 = .ok (.if_icmp .ne 9, 3) := by decide +kernel
theorem dRd_readSieve_38 : decode bRd_readSieve 38 = .ok (.aload_n 0, 1) := by decide +kernel
theorem dRd_readSieve_39 : decode bRd_readSieve 39 = .ok (.iconst 2, 1) := by decide +kernel
theorem dRd_readSieve_40 : decode bRd_readSieve 40 = .ok (.invokevirtual 54, 3) := by decide +kernel
theorem dRd_readSieve_43 : decode bRd_readSieve 43 = .ok (.ireturn, 1) := by decide +kernel
theorem dRd_readSieve_44 : decode bRd_readSieve 44 = .ok (.aload_n 1, 1) := by decide +kernel
theorem dRd_readSieve_45 : decode bRd_readSieve 45 = .ok (.iload_n 2, 1) := by decide +kernel
theorem dRd_readSieve_46 : decode bRd_readSieve 46 = .ok (.putfield 119, 3) := by decide +kernel
theorem dRd_readSieve_49 : decode bRd_readSieve 49 = .ok (.aload_n 0, 1) := by decide +kernel
theorem dRd_readSieve_50 : decode bRd_readSieve 50 = .ok (.invokevirtual 40, 3) := by decide +kernel
theorem dRd_readSieve_53 : decode bRd_readSieve 53 = .ok (.aload_n 0, 1) := by decide +kernel
theorem dRd_readSieve_54 : decode bRd_readSieve 54 = .ok (.ldc 181, 2) := by decide +kernel
theorem dRd_readSieve_56 : decode bRd_readSieve 56 = .ok (.invokevirtual 159, 3) := by decide +kernel
theorem dRd_readSieve_59 : decode bRd_readSieve 59 = .ok (.ifCond .eq 13, 3) := by decide +kernel
theorem dRd_readSieve_62 : decode bRd_readSieve 62 = .ok (.aload_n 0, 1) := by decide +kernel
theorem dRd_readSieve_63 : decode bRd_readSieve 63 = .ok (.iconst 0, 1) := by decide +kernel
theorem dRd_readSieve_64 : decode bRd_readSieve 64 = .ok (.bipush 50, 2) := by decide +kernel
theorem dRd_readSieve_66 : decode bRd_readSieve 66 = .ok (.invokevirtual 162, 3) := by decide +kernel
theorem dRd_readSieve_69 : decode bRd_readSieve 69 = .ok (.ifCond .ne 5, 3) := by decide +kernel
theorem dRd_readSieve_72 : decode bRd_readSieve 72 = .ok (.iconst 0, 1) := by decide +kernel
theorem dRd_readSieve_73 : decode bRd_readSieve 73 = .ok (.ireturn, 1) := by decide +kernel
theorem dRd_readSieve_74 : decode bRd_readSieve 74 = .ok (.aload_n 1, 1) := by decide +kernel
theorem dRd_readSieve_75 : decode bRd_readSieve 75 = .ok (.aload_n 0, 1) := by decide +kernel
theorem dRd_readSieve_76 : decode bRd_readSieve 76 = .ok (.getfield 81, 3) := by decide +kernel
theorem dRd_readSieve_79 : decode bRd_readSieve 79 = .ok (.putfield 183, 3) := by decide +kernel
theorem dRd_readSieve_82 : decode bRd_readSieve 82 = .ok (.aload_n 0, 1) := by decide +kernel
theorem dRd_readSieve_83 : decode bRd_readSieve 83 = .ok (.invokevirtual 40, 3) := by decide +kernel
theorem dRd_readSieve_86 : decode bRd_readSieve 86 = .ok (.iconst 1, 1) := by decide +kernel
theorem dRd_readSieve_87 : decode bRd_readSieve 87 = .ok (.ireturn, 1) := by decide +kernel
theorem dRd_readLiner_0 : decode bRd_readLiner 0 = .ok (.aload_n 0, 1) := by decide +kernel
theorem dRd_readLiner_1 : decode bRd_readLiner 1 = .ok (.invokevirtual 40, 3) := by decide +kernel
theorem dRd_readLiner_4 : decode bRd_readLiner 4 = .ok (.aload_n 0, 1) := by decide +kernel
theorem dRd_readLiner_5 : decode bRd_readLiner 5 = .ok (.iconst 1, 1) := by decide +kernel
theorem dRd_readLiner_6 : decode bRd_readLiner 6 = .ok (.sipush 200, 3) := by decide +kernel
theorem dRd_readLiner_9 : decode bRd_readLiner 9 = .ok (.invokevirtual 162, 3) := by decide +kernel
theorem dRd_readLiner_12 : decode bRd_readLiner 12 = .ok (.ifCond .ne 5, 3) := by decide +kernel
theorem dRd_readLiner_15 : decode bRd_readLiner 15 = .ok (.iconst 0, 1) := by decide +kernel
theorem dRd_readLiner_16 : decode bRd_readLiner 16 = .ok (.ireturn, 1) := by decide +kernel
theorem dRd_readLiner_17 : decode bRd_readLiner 17 = .ok (.aload_n 1, 1) := by decide +kernel
theorem dRd_readLiner_18 : decode bRd_readLiner 18 = .ok (.aload_n 0, 1) := by decide +kernel
theorem dRd_readLiner_19 : decode bRd_readLiner 19 = .ok (.getfield 81, 3) := by decide +kernel
theorem dRd_readLiner_22 : decode bRd_readLiner 22 = .ok (.putfield 124, 3) := by decide +kernel
theorem dRd_readLiner_25 : decode bRd_readLiner 25 = .ok (.aload_n 0, 1) := by decide +kernel
theorem dRd_readLiner_26 : decode bRd_readLiner 26 = .ok (.invokevirtual 40, 3) := by decide +kernel
theorem dRd_readLiner_29 : decode bRd_readLiner 29 = .ok (.iconst 1, 1) := by decide +kernel
theorem dRd_readLiner_30 : decode bRd_readLiner 30 = .ok (.ireturn, 1) := by decide +kernel
theorem dRd_readBin_0 : decode bRd_readBin 0 = .ok (.aload_n 0, 1) := by decide +kernel
theorem dRd_readBin_1 : decode bRd_readBin 1 = .ok (.invokevirtual 40, 3) := by decide +kernel
theorem dRd_readBin_4 : decode bRd_readBin 4 = .ok (.aload_n 0, 1) := by decide +kernel
theorem dRd_readBin_5 : decode bRd_readBin 5 = .ok (.iconst 1, 1) := by decide +kernel
theorem dRd_readBin_6 : decode bRd_readBin 6 = .ok (.sipush 999, 3) := by decide +kernel
theorem dRd_readBin_9 : decode bRd_readBin 9 = .ok (.invokevirtual 162, 3) := by decide +kernel
theorem dRd_readBin_12 : decode bRd_readBin 12 = .ok (.ifCond .ne 5, 3) := by decide +kernel
theorem dRd_readBin_15 : decode bRd_readBin 15 = .ok (.iconst 0, 1) := by decide +kernel
theorem dRd_readBin_16 : decode bRd_readBin 16 = .ok (.ireturn, 1) := by decide +kernel
theorem dRd_readBin_17 : decode bRd_readBin 17 = .ok (.aload_n 1, 1) := by decide +kernel
theorem dRd_readBin_18 : decode bRd_readBin 18 = .ok (.aload_n 0, 1) := by decide +kernel
theorem dRd_readBin_19 : decode bRd_readBin 19 = .ok (.getfield 81, 3) := by decide +kernel
theorem dRd_readBin_22 : decode bRd_readBin 22 = .ok (.putfield 130, 3) := by decide +kernel
theorem dRd_readBin_25 : decode bRd_readBin 25 = .ok (.aload_n 0, 1) := by decide +kernel
theorem dRd_readBin_26 : decode bRd_readBin 26 = .ok (.invokevirtual 40, 3) := by decide +kernel
theorem dRd_readBin_29 : decode bRd_readBin 29 = .ok (.aload_n 0, 1) := by decide +kernel
theorem dRd_readBin_30 : decode bRd_readBin 30 = .ok (.ldc 185, 2) := by decide +kernel
theorem dRd_readBin_32 : decode bRd_readBin 32 = .ok (.invokevirtual 159, 3) := by decide +kernel
theorem dRd_readBin_35 : decode bRd_readBin 35 = .ok (.ifCond .eq 14, 3) := by decide +kernel
theorem dRd_readBin_38 : decode bRd_readBin 38 = .ok (.aload_n 0, 1) := by decide +kernel
theorem dRd_readBin_39 : decode bRd_readBin 39 = .ok (.iconst 0, 1) := by decide +kernel
theorem dRd_readBin_40 : decode bRd_readBin 40 = .ok (.sipush 200, 3) := by decide +kernel
theorem dRd_readBin_43 : decode bRd_readBin 43 = .ok (.invokevirtual 162, 3) := by decide +kernel
theorem dRd_readBin_46 : decode bRd_readBin 46 = .ok (.ifCond .ne 5, 3) := by decide +kernel
theorem dRd_readBin_49 : decode bRd_readBin 49 = .ok (.iconst 0, 1) := by decide +kernel
theorem dRd_readBin_50 : decode bRd_readBin 50 = .ok (.ireturn, 1) := by decide +kernel
theorem dRd_readBin_51 : decode bRd_readBin 51 = .ok (.aload_n 1, 1) := by decide +kernel
theorem dRd_readBin_52 : decode bRd_readBin 52 = .ok (.aload_n 0, 1) := by decide +kernel
theorem dRd_readBin_53 : decode bRd_readBin 53 = .ok (.getfield 81, 3) := by decide +kernel
theorem dRd_readBin_56 : decode bRd_readBin 56 = .ok (.putfield 187, 3) := by decide +kernel
theorem dRd_readBin_59 : decode bRd_readBin 59 = .ok (.aload_n 0, 1) := by decide +kernel
theorem dRd_readBin_60 : decode bRd_readBin 60 = .ok (.invokevirtual 40, 3) := by decide +kernel
theorem dRd_readBin_63 : decode bRd_readBin 63 = .ok (.iconst 1, 1) := by decide +kernel
theorem dRd_readBin_64 : decode bRd_readBin 64 = .ok (.ireturn, 1) := by decide +kernel
theorem dRd_readPrices_0 : decode bRd_readPrices 0 = .ok (.iconst 0, 1) := by decide +kernel
theorem dRd_readPrices_1 : decode bRd_readPrices 1 = .ok (.istore_n 2, 1) := by decide +kernel
theorem dRd_readPrices_2 : decode bRd_readPrices 2 = .ok (.iload_n 2, 1) := by decide +kernel
theorem dRd_readPrices_3 : decode bRd_readPrices 3 = .ok (.bipush 6, 2) := by decide +kernel
theorem dRd_readPrices_5 : decode bRd_readPrices 5 = .ok (.if_icmp .gt 69, 3) := by decide +kernel
theorem dRd_readPrices_8 : decode bRd_readPrices 8 = .ok (.aload_n 0, 1) := by decide +kernel
theorem dRd_readPrices_9 : decode bRd_readPrices 9 = .ok (.invokevirtual 40, 3) := by decide +kernel
theorem dRd_readPrices_12 : decode bRd_readPrices 12 = .ok (.aload_n 0, 1) := by decide +kernel
theorem dRd_readPrices_13 : decode bRd_readPrices 13 = .ok (.iconst 0, 1) := by decide +kernel
theorem dRd_readPrices_14 : decode bRd_readPrices 14 = .ok (.bipush 99, 2) := by decide +kernel
theorem dRd_readPrices_16 : decode bRd_readPrices 16 = .ok (.invokevirtual 162, 3) := by decide +kernel
theorem dRd_readPrices_19 : decode bRd_readPrices 19 = .ok (.ifCond .ne 5, 3) := by decide +kernel
theorem dRd_readPrices_22 : decode bRd_readPrices 22 = .ok (.iconst 0, 1) := by decide +kernel
theorem dRd_readPrices_23 : decode bRd_readPrices 23 = .ok (.ireturn, 1) := by decide +kernel
theorem dRd_readPrices_24 : decode bRd_readPrices 24 = .ok (.iload_n 2, 1) := by decide +kernel
theorem dRd_readPrices_25 : decode bRd_readPrices 25 = .ok (.bipush 6, 2) := by decide +kernel
theorem dRd_readPrices_27 : decode bRd_readPrices 27 = .ok (.if_icmp .lt 9, 3) := by decide +kernel
theorem dRd_readPrices_30 : decode bRd_readPrices 30 = .ok (.aload_n 0, 1) := by decide +kernel
theorem dRd_readPrices_31 : decode bRd_readPrices 31 = .ok (.iconst 5, 1) := by decide +kernel
theorem dRd_readPrices_32 : decode bRd_readPrices 32 = .ok (.invokevirtual 54, 3) := by decide +kernel
theorem dRd_readPrices_35 : decode bRd_readPrices 35 = .ok (.ireturn, 1) := by decide +kernel
theorem dRd_readPrices_36 : decode bRd_readPrices 36 = .ok (.aload_n 1, 1) := by decide +kernel
theorem dRd_readPrices_37 : decode bRd_readPrices 37 = .ok (.getfield 189, 3) := by decide +kernel
theorem dRd_readPrices_40 : decode bRd_readPrices 40 = .ok (.iload_n 2, 1) := by decide +kernel
theorem dRd_readPrices_41 : decode bRd_readPrices 41 = .ok (.aload_n 0, 1) := by decide +kernel
theorem dRd_readPrices_42 : decode bRd_readPrices 42 = .ok (.getfield 81, 3) := by decide +kernel
theorem dRd_readPrices_45 : decode bRd_readPrices 45 = .ok (.iastore, 1) := by decide +kernel
theorem dRd_readPrices_46 : decode bRd_readPrices 46 = .ok (.aload_n 1, 1) := by decide +kernel
theorem dRd_readPrices_47 : decode bRd_readPrices 47 = .ok (.iload_n 2, 1) := by decide +kernel
theorem dRd_readPrices_48 : decode bRd_readPrices 48 = .ok (.iconst 1, 1) := by decide +kernel
theorem dRd_readPrices_49 : decode bRd_readPrices 49 = .ok (.iadd, 1) := by decide +kernel
theorem dRd_readPrices_50 : decode bRd_readPrices 50 = .ok (.putfield 136, 3) := by decide +kernel
theorem dRd_readPrices_53 : decode bRd_readPrices 53 = .ok (.aload_n 0, 1) := by decide +kernel
theorem dRd_readPrices_54 : decode bRd_readPrices 54 = .ok (.invokevirtual 40, 3) := by decide +kernel
theorem dRd_readPrices_57 : decode bRd_readPrices 57 = .ok (.aload_n 0, 1) := by decide +kernel
theorem dRd_readPrices_58 : decode bRd_readPrices 58 = .ok (.bipush 44, 2) := by decide +kernel
theorem dRd_readPrices_60 : decode bRd_readPrices 60 = .ok (.invokevirtual 58, 3) := by decide +kernel
theorem dRd_readPrices_63 : decode bRd_readPrices 63 = .ok (.ifCond .ne 5, 3) := by decide +kernel
theorem dRd_readPrices_66 : decode bRd_readPrices 66 = .ok (.iconst 1, 1) := by decide +kernel
theorem dRd_readPrices_67 : decode bRd_readPrices 67 = .ok (.ireturn, 1) := by decide +kernel
theorem dRd_readPrices_68 : decode bRd_readPrices 68 = .ok (.iinc 2 1, 3) := by decide +kernel
theorem dRd_readPrices_71 : decode bRd_readPrices 71 = .ok (.goto (-69), 3) := by decide +kernel
theorem dRd_readPrices_74 : decode bRd_readPrices 74 = .ok (.aload_n 0, 1) := by decide +kernel
theorem dRd_readPrices_75 : decode bRd_readPrices 75 = .ok (.iconst 5, 1) := by decide +kernel
theorem dRd_readPrices_76 : decode bRd_readPrices 76 = .ok (.invokevirtual 54, 3) := by decide +kernel
theorem dRd_readPrices_79 : decode bRd_readPrices 79 = .ok (.ireturn, 1) := by decide +kernel
theorem dRd_readSize_0 : decode bRd_readSize 0 = .ok (.aload_n 0, 1) := by decide +kernel
theorem dRd_readSize_1 : decode bRd_readSize 1 = .ok (.invokevirtual 40, 3) := by decide +kernel
theorem dRd_readSize_4 : decode bRd_readSize 4 = .ok (.aload_n 0, 1) := by decide +kernel
theorem dRd_readSize_5 : decode bRd_readSize 5 = .ok (.invokevirtual 170, 3) := by decide +kernel
theorem dRd_readSize_8 : decode bRd_readSize 8 = .ok (.ifCond .ne 9, 3) := by decide +kernel
theorem dRd_readSize_11 : decode bRd_readSize 11 = .ok (.aload_n 0, 1) := by decide +kernel
theorem dRd_readSize_12 : decode bRd_readSize 12 = .ok (.iconst 1, 1) := by decide +kernel
theorem dRd_readSize_13 : decode bRd_readSize 13 = .ok (.invokevirtual 54, 3) := by decide +kernel
theorem dRd_readSize_16 : decode bRd_readSize 16 = .ok (.ireturn, 1) := by decide +kernel
theorem dRd_readSize_17 : decode bRd_readSize 17 = .ok (.aload_n 0, 1) := by decide +kernel
theorem dRd_readSize_18 : decode bRd_readSize 18 = .ok (.aload_n 1, 1) := by decide +kernel
theorem dRd_readSize_19 : decode bRd_readSize 19 = .ok (.invokevirtual 193, 3) := by decide +kernel
theorem dRd_readSize_22 : decode bRd_readSize 22 = .ok (.ifCond .eq 9, 3) := by decide +kernel
theorem dRd_readSize_25 : decode bRd_readSize 25 = .ok (.aload_n 0, 1) := by decide +kernel
theorem dRd_readSize_26 : decode bRd_readSize 26 = .ok (.iconst 3, 1) := by decide +kernel
theorem dRd_readSize_27 : decode bRd_readSize 27 = .ok (.invokevirtual 54, 3) := by decide +kernel
theorem dRd_readSize_30 : decode bRd_readSize 30 = .ok (.ireturn, 1) := by decide +kernel
theorem dRd_readSize_31 : decode bRd_readSize 31 = .ok (.iload_n 2, 1) := by decide +kernel
theorem dRd_readSize_32 : decode bRd_readSize 32 = .ok (.ifCond .lt 8, 3) := by decide +kernel
theorem dRd_readSize_35 : decode bRd_readSize 35 = .ok (.iload_n 2, 1) := by decide +kernel
theorem dRd_readSize_36 : decode bRd_readSize 36 = .ok (.iconst 5, 1) := by decide +kernel
theorem dRd_readSize_37 : decode bRd_readSize 37 = .ok (.if_icmp .lt 9, 3) := by decide +kernel
theorem dRd_readSize_40 : decode bRd_readSize 40 = .ok (.aload_n 0, 1) := by decide +kernel
theorem dRd_readSize_41 : decode bRd_readSize 41 = .ok (.iconst 5, 1) := by decide +kernel
theorem dRd_readSize_42 : decode bRd_readSize 42 = .ok (.invokevirtual 54, 3) := by decide +kernel
theorem dRd_readSize_45 : decode bRd_readSize 45 = .ok (.ireturn, 1) := by decide +kernel
theorem dRd_readSize_46 : decode bRd_readSize 46 = .ok (.aload_n 0, 1) := by decide +kernel
theorem dRd_readSize_47 : decode bRd_readSize 47 = .ok (.getfield 15, 3) := by decide +kernel
theorem dRd_readSize_50 : decode bRd_readSize 50 = .ok (.iload_n 2, 1) := by decide +kernel
theorem dRd_readSize_51 : decode bRd_readSize 51 = .ok (.aload_n 0, 1) := by decide +kernel
theorem dRd_readSize_52 : decode bRd_readSize 52 = .ok (.invokevirtual 173, 3) := by decide +kernel
theorem dRd_readSize_55 : decode bRd_readSize 55 = .ok (.lastore, 1) := by decide +kernel
theorem dRd_readSize_56 : decode bRd_readSize 56 = .ok (.aload_n 1, 1) := by decide +kernel
theorem dRd_readSize_57 : decode bRd_readSize 57 = .ok (.iload_n 2, 1) := by decide +kernel
theorem dRd_readSize_58 : decode bRd_readSize 58 = .ok (.iconst 1, 1) := by decide +kernel
theorem dRd_readSize_59 : decode bRd_readSize 59 = .ok (.iadd, 1) := by decide +kernel
theorem dRd_readSize_60 : decode bRd_readSize 60 = .ok (.putfield 142, 3) := by decide +kernel
theorem dRd_readSize_63 : decode bRd_readSize 63 = .ok (.aload_n 0, 1) := by decide +kernel
theorem dRd_readSize_64 : decode bRd_readSize 64 = .ok (.invokevirtual 40, 3) := by decide +kernel
theorem dRd_readSize_67 : decode bRd_readSize 67 = .ok (.aload_n 0, 1) := by decide +kernel
theorem dRd_readSize_68 : decode bRd_readSize 68 = .ok (.ldc 196, 2) := by decide +kernel
theorem dRd_readSize_70 : decode bRd_readSize 70 = .ok (.invokevirtual 95, 3) := by decide +kernel
theorem dRd_readSize_73 : decode bRd_readSize 73 = .ok (.ifCond .ne 5, 3) := by decide +kernel
theorem dRd_readSize_76 : decode bRd_readSize 76 = .ok (.iconst 1, 1) := by decide +kernel
theorem dRd_readSize_77 : decode bRd_readSize 77 = .ok (.ireturn, 1) := by decide +kernel
theorem dRd_readSize_78 : decode bRd_readSize 78 = .ok (.aload_n 0, 1) := by decide +kernel
theorem dRd_readSize_79 : decode bRd_readSize 79 = .ok (.invokevirtual 40, 3) := by decide +kernel
theorem dRd_readSize_82 : decode bRd_readSize 82 = .ok (.aload_n 0, 1) := by decide +kernel
theorem dRd_readSize_83 : decode bRd_readSize 83 = .ok (.iconst 0, 1) := by decide +kernel
theorem dRd_readSize_84 : decode bRd_readSize 84 = .ok (.bipush 100, 2) := by decide +kernel
theorem dRd_readSize_86 : decode bRd_readSize 86 = .ok (.invokevirtual 162, 3) := by decide +kernel
theorem dRd_readSize_89 : decode bRd_readSize 89 = .ok (.ifCond .ne 5, 3) := by decide +kernel
theorem dRd_readSize_92 : decode bRd_readSize 92 = .ok (.iconst 0, 1) := by decide +kernel
theorem dRd_readSize_93 : decode bRd_readSize 93 = .ok (.ireturn, 1) := by decide +kernel
theorem dRd_readSize_94 : decode bRd_readSize 94 = .ok (.aload_n 1, 1) := by decide +kernel
theorem dRd_readSize_95 : decode bRd_readSize 95 = .ok (.getfield 198, 3) := by decide +kernel
theorem dRd_readSize_98 : decode bRd_readSize 98 = .ok (.iload_n 2, 1) := by decide +kernel
theorem dRd_readSize_99 : decode bRd_readSize 99 = .ok (.aload_n 0, 1) := by decide +kernel
theorem dRd_readSize_100 : decode bRd_readSize 100 = .ok (.getfield 81, 3) := by decide +kernel
theorem dRd_readSize_103 : decode bRd_readSize 103 = .ok (.iastore, 1) := by decide +kernel
theorem dRd_readSize_104 : decode bRd_readSize 104 = .ok (.aload_n 0, 1) := by decide +kernel
theorem dRd_readSize_105 : decode bRd_readSize 105 = .ok (.invokevirtual 40, 3) := by decide +kernel
theorem dRd_readSize_108 : decode bRd_readSize 108 = .ok (.aload_n 0, 1) := by decide +kernel
theorem dRd_readSize_109 : decode bRd_readSize 109 = .ok (.ldc 200, 2) := by decide +kernel
theorem dRd_readSize_111 : decode bRd_readSize 111 = .ok (.invokevirtual 159, 3) := by decide +kernel
theorem dRd_readSize_114 : decode bRd_readSize 114 = .ok (.ifCond .eq 13, 3) := by decide +kernel
theorem dRd_readSize_117 : decode bRd_readSize 117 = .ok (.aload_n 0, 1) := by decide +kernel
theorem dRd_readSize_118 : decode bRd_readSize 118 = .ok (.iconst 0, 1) := by decide +kernel
theorem dRd_readSize_119 : decode bRd_readSize 119 = .ok (.bipush 100, 2) := by decide +kernel
theorem dRd_readSize_121 : decode bRd_readSize 121 = .ok (.invokevirtual 162, 3) := by decide +kernel
theorem dRd_readSize_124 : decode bRd_readSize 124 = .ok (.ifCond .ne 5, 3) := by decide +kernel
theorem dRd_readSize_127 : decode bRd_readSize 127 = .ok (.iconst 0, 1) := by decide +kernel
theorem dRd_readSize_128 : decode bRd_readSize 128 = .ok (.ireturn, 1) := by decide +kernel
theorem dRd_readSize_129 : decode bRd_readSize 129 = .ok (.aload_n 1, 1) := by decide +kernel
theorem dRd_readSize_130 : decode bRd_readSize 130 = .ok (.getfield 202, 3) := by decide +kernel
theorem dRd_readSize_133 : decode bRd_readSize 133 = .ok (.iload_n 2, 1) := by decide +kernel
theorem dRd_readSize_134 : decode bRd_readSize 134 = .ok (.aload_n 0, 1) := by decide +kernel
theorem dRd_readSize_135 : decode bRd_readSize 135 = .ok (.getfield 81, 3) := by decide +kernel
theorem dRd_readSize_138 : decode bRd_readSize 138 = .ok (.iastore, 1) := by decide +kernel
theorem dRd_readSize_139 : decode bRd_readSize 139 = .ok (.aload_n 0, 1) := by decide +kernel
theorem dRd_readSize_140 : decode bRd_readSize 140 = .ok (.invokevirtual 40, 3) := by decide +kernel
theorem dRd_readSize_143 : decode bRd_readSize 143 = .ok (.iconst 1, 1) := by decide +kernel
theorem dRd_readSize_144 : decode bRd_readSize 144 = .ok (.ireturn, 1) := by decide +kernel
theorem dRd_readOre_0 : decode bRd_readOre 0 = .ok (.aload_n 0, 1) := by decide +kernel
theorem dRd_readOre_1 : decode bRd_readOre 1 = .ok (.invokevirtual 40, 3) := by decide +kernel
theorem dRd_readOre_4 : decode bRd_readOre 4 = .ok (.aload_n 0, 1) := by decide +kernel
theorem dRd_readOre_5 : decode bRd_readOre 5 = .ok (.invokevirtual 170, 3) := by decide +kernel
theorem dRd_readOre_8 : decode bRd_readOre 8 = .ok (.ifCond .ne 9, 3) := by decide +kernel
theorem dRd_readOre_11 : decode bRd_readOre 11 = .ok (.aload_n 0, 1) := by decide +kernel
theorem dRd_readOre_12 : decode bRd_readOre 12 = .ok (.iconst 1, 1) := by decide +kernel
theorem dRd_readOre_13 : decode bRd_readOre 13 = .ok (.invokevirtual 54, 3) := by decide +kernel
theorem dRd_readOre_16 : decode bRd_readOre 16 = .ok (.ireturn, 1) := by decide +kernel
theorem dRd_readOre_17 : decode bRd_readOre 17 = .ok (.aload_n 0, 1) := by decide +kernel
theorem dRd_readOre_18 : decode bRd_readOre 18 = .ok (.aload_n 1, 1) := by decide +kernel
theorem dRd_readOre_19 : decode bRd_readOre 19 = .ok (.invokevirtual 193, 3) := by decide +kernel
theorem dRd_readOre_22 : decode bRd_readOre 22 = .ok (.ifCond .eq 9, 3) := by decide +kernel
theorem dRd_readOre_25 : decode bRd_readOre 25 = .ok (.aload_n 0, 1) := by decide +kernel
theorem dRd_readOre_26 : decode bRd_readOre 26 = .ok (.iconst 3, 1) := by decide +kernel
theorem dRd_readOre_27 : decode bRd_readOre 27 = .ok (.invokevirtual 54, 3) := by decide +kernel
theorem dRd_readOre_30 : decode bRd_readOre 30 = .ok (.ireturn, 1) := by decide +kernel
theorem dRd_readOre_31 : decode bRd_readOre 31 = .ok (.iload_n 2, 1) := by decide +kernel
theorem dRd_readOre_32 : decode bRd_readOre 32 = .ok (.ifCond .lt 8, 3) := by decide +kernel
theorem dRd_readOre_35 : decode bRd_readOre 35 = .ok (.iload_n 2, 1) := by decide +kernel
theorem dRd_readOre_36 : decode bRd_readOre 36 = .ok (.iconst 4, 1) := by decide +kernel
theorem dRd_readOre_37 : decode bRd_readOre 37 = .ok (.if_icmp .lt 9, 3) := by decide +kernel
theorem dRd_readOre_40 : decode bRd_readOre 40 = .ok (.aload_n 0, 1) := by decide +kernel
theorem dRd_readOre_41 : decode bRd_readOre 41 = .ok (.iconst 5, 1) := by decide +kernel
theorem dRd_readOre_42 : decode bRd_readOre 42 = .ok (.invokevirtual 54, 3) := by decide +kernel
theorem dRd_readOre_45 : decode bRd_readOre 45 = .ok (.ireturn, 1) := by decide +kernel
theorem dRd_readOre_46 : decode bRd_readOre 46 = .ok (.aload_n 0, 1) := by decide +kernel
theorem dRd_readOre_47 : decode bRd_readOre 47 = .ok (.getfield 19, 3) := by decide +kernel
theorem dRd_readOre_50 : decode bRd_readOre 50 = .ok (.iload_n 2, 1) := by decide +kernel
theorem dRd_readOre_51 : decode bRd_readOre 51 = .ok (.aload_n 0, 1) := by decide +kernel
theorem dRd_readOre_52 : decode bRd_readOre 52 = .ok (.invokevirtual 173, 3) := by decide +kernel
theorem dRd_readOre_55 : decode bRd_readOre 55 = .ok (.lastore, 1) := by decide +kernel
theorem dRd_readOre_56 : decode bRd_readOre 56 = .ok (.aload_n 1, 1) := by decide +kernel
theorem dRd_readOre_57 : decode bRd_readOre 57 = .ok (.iload_n 2, 1) := by decide +kernel
theorem dRd_readOre_58 : decode bRd_readOre 58 = .ok (.iconst 1, 1) := by decide +kernel
theorem dRd_readOre_59 : decode bRd_readOre 59 = .ok (.iadd, 1) := by decide +kernel
theorem dRd_readOre_60 : decode bRd_readOre 60 = .ok (.putfield 149, 3) := by decide +kernel
theorem dRd_readOre_63 : decode bRd_readOre 63 = .ok (.aload_n 0, 1) := by decide +kernel
theorem dRd_readOre_64 : decode bRd_readOre 64 = .ok (.invokevirtual 40, 3) := by decide +kernel
theorem dRd_readOre_67 : decode bRd_readOre 67 = .ok (.aload_n 0, 1) := by decide +kernel
theorem dRd_readOre_68 : decode bRd_readOre 68 = .ok (.ldc 204, 2) := by decide +kernel
theorem dRd_readOre_70 : decode bRd_readOre 70 = .ok (.invokevirtual 159, 3) := by decide +kernel
theorem dRd_readOre_73 : decode bRd_readOre 73 = .ok (.ifCond .eq 13, 3) := by decide +kernel
theorem dRd_readOre_76 : decode bRd_readOre 76 = .ok (.aload_n 0, 1) := by decide +kernel
theorem dRd_readOre_77 : decode bRd_readOre 77 = .ok (.iconst 1, 1) := by decide +kernel
theorem dRd_readOre_78 : decode bRd_readOre 78 = .ok (.bipush 9, 2) := by decide +kernel
theorem dRd_readOre_80 : decode bRd_readOre 80 = .ok (.invokevirtual 162, 3) := by decide +kernel
theorem dRd_readOre_83 : decode bRd_readOre 83 = .ok (.ifCond .ne 5, 3) := by decide +kernel
theorem dRd_readOre_86 : decode bRd_readOre 86 = .ok (.iconst 0, 1) := by decide +kernel
theorem dRd_readOre_87 : decode bRd_readOre 87 = .ok (.ireturn, 1) := by decide +kernel
theorem dRd_readOre_88 : decode bRd_readOre 88 = .ok (.aload_n 1, 1) := by decide +kernel
theorem dRd_readOre_89 : decode bRd_readOre 89 = .ok (.getfield 206, 3) := by decide +kernel
theorem dRd_readOre_92 : decode bRd_readOre 92 = .ok (.iload_n 2, 1) := by decide +kernel
theorem dRd_readOre_93 : decode bRd_readOre 93 = .ok (.aload_n 0, 1) := by decide +kernel
theorem dRd_readOre_94 : decode bRd_readOre 94 = .ok (.getfield 81, 3) := by decide +kernel
theorem dRd_readOre_97 : decode bRd_readOre 97 = .ok (.iastore, 1) := by decide +kernel
theorem dRd_readOre_98 : decode bRd_readOre 98 = .ok (.aload_n 0, 1) := by decide +kernel
theorem dRd_readOre_99 : decode bRd_readOre 99 = .ok (.invokevirtual 40, 3) := by decide +kernel
theorem dRd_readOre_102 : decode bRd_readOre 102 = .ok (.aload_n 0, 1) := by decide +kernel
theorem dRd_readOre_103 : decode bRd_readOre 103 = .ok (.ldc 208, 2) := by decide +kernel
theorem dRd_readOre_105 : decode bRd_readOre 105 = .ok (.invokevirtual 95, 3) := by decide +kernel
theorem dRd_readOre_108 : decode bRd_readOre 108 = .ok (.ifCond .eq 7, 3) := by decide +kernel
theorem dRd_readOre_111 : decode bRd_readOre 111 = .ok (.iconst 1, 1) := by decide +kernel
theorem dRd_readOre_112 : decode bRd_readOre 112 = .ok (.goto 8, 3) := by decide +kernel
theorem dRd_readOre_115 : decode bRd_readOre 115 = .ok (.aload_n 0, 1) := by decide +kernel
theorem dRd_readOre_116 : decode bRd_readOre 116 = .ok (.iconst 1, 1) := by decide +kernel
theorem dRd_readOre_117 : decode bRd_readOre 117 = .ok (.invokevirtual 54, 3) := by decide +kernel
theorem dRd_readOre_120 : decode bRd_readOre 120 = .ok (.ireturn, 1) := by decide +kernel
theorem dRd_readTons_0 : decode bRd_readTons 0 = .ok (.iload_n 2, 1) := by decide +kernel
theorem dRd_readTons_1 : decode bRd_readTons 1 = .ok (.iconst 5, 1) := by decide +kernel
theorem dRd_readTons_2 : decode bRd_readTons 2 = .ok (.imul, 1) := by decide +kernel
theorem dRd_readTons_3 : decode bRd_readTons 3 = .ok (.istore_n 3, 1) := by decide +kernel
theorem dRd_readTons_4 : decode bRd_readTons 4 = .ok (.iconst 0, 1) := by decide +kernel
theorem dRd_readTons_5 : decode bRd_readTons 5 = .ok (.istore 4, 2) := by decide +kernel
theorem dRd_readTons_7 : decode bRd_readTons 7 = .ok (.iload 4, 2) := by decide +kernel
theorem dRd_readTons_9 : decode bRd_readTons 9 = .ok (.iconst 5, 1) := by decide +kernel
theorem dRd_readTons_10 : decode bRd_readTons 10 = .ok (.if_icmp .gt 84, 3) := by decide +kernel
theorem dRd_readTons_13 : decode bRd_readTons 13 = .ok (.aload_n 0, 1) := by decide +kernel
theorem dRd_readTons_14 : decode bRd_readTons 14 = .ok (.invokevirtual 40, 3) := by decide +kernel
theorem dRd_readTons_17 : decode bRd_readTons 17 = .ok (.aload_n 0, 1) := by decide +kernel
theorem dRd_readTons_18 : decode bRd_readTons 18 = .ok (.iconst 0, 1) := by decide +kernel
theorem dRd_readTons_19 : decode bRd_readTons 19 = .ok (.bipush 50, 2) := by decide +kernel
theorem dRd_readTons_21 : decode bRd_readTons 21 = .ok (.invokevirtual 162, 3) := by decide +kernel
theorem dRd_readTons_24 : decode bRd_readTons 24 = .ok (.ifCond .ne 5, 3) := by decide +kernel
theorem dRd_readTons_27 : decode bRd_readTons 27 = .ok (.iconst 0, 1) := by decide +kernel
theorem dRd_readTons_28 : decode bRd_readTons 28 = .ok (.ireturn, 1) := by decide +kernel
theorem dRd_readTons_29 : decode bRd_readTons 29 = .ok (.iload 4, 2) := by decide +kernel
theorem dRd_readTons_31 : decode bRd_readTons 31 = .ok (.aload_n 1, 1) := by decide +kernel
theorem dRd_readTons_32 : decode bRd_readTons 32 = .ok (.getfield 142, 3) := by decide +kernel
theorem dRd_readTons_35 : decode bRd_readTons 35 = .ok (.if_icmp .ge 19, 3) := by decide +kernel
theorem dRd_readTons_38 : decode bRd_readTons 38 = .ok (.iload_n 3, 1) := by decide +kernel
theorem dRd_readTons_39 : decode bRd_readTons 39 = .ok (.ifCond .lt 15, 3) := by decide +kernel
theorem dRd_readTons_42 : decode bRd_readTons 42 = .ok (.iload_n 3, 1) := by decide +kernel
theorem dRd_readTons_43 : decode bRd_readTons 43 = .ok (.iload 4, 2) := by decide +kernel
theorem dRd_readTons_45 : decode bRd_readTons 45 = .ok (.iadd, 1) := by decide +kernel
theorem dRd_readTons_46 : decode bRd_readTons 46 = .ok (.aload_n 1, 1) := by decide +kernel
theorem dRd_readTons_47 : decode bRd_readTons 47 = .ok (.getfield 210, 3) := by decide +kernel
theorem dRd_readTons_50 : decode bRd_readTons 50 = .ok (.arraylength, 1) := by decide +kernel
theorem dRd_readTons_51 : decode bRd_readTons 51 = .ok (.if_icmp .lt 9, 3) := by decide +kernel
theorem dRd_readTons_54 : decode bRd_readTons 54 = .ok (.aload_n 0, 1) := by decide +kernel
theorem dRd_readTons_55 : decode bRd_readTons 55 = .ok (.iconst 5, 1) := by decide +kernel
theorem dRd_readTons_56 : decode bRd_readTons 56 = .ok (.invokevirtual 54, 3) := by decide +kernel
theorem dRd_readTons_59 : decode bRd_readTons 59 = .ok (.ireturn, 1) := by decide +kernel
theorem dRd_readTons_60 : decode bRd_readTons 60 = .ok (.aload_n 1, 1) := by decide +kernel
theorem dRd_readTons_61 : decode bRd_readTons 61 = .ok (.getfield 210, 3) := by decide +kernel
theorem dRd_readTons_64 : decode bRd_readTons 64 = .ok (.iload_n 3, 1) := by decide +kernel
theorem dRd_readTons_65 : decode bRd_readTons 65 = .ok (.iload 4, 2) := by decide +kernel
theorem dRd_readTons_67 : decode bRd_readTons 67 = .ok (.iadd, 1) := by decide +kernel
theorem dRd_readTons_68 : decode bRd_readTons 68 = .ok (.aload_n 0, 1) := by decide +kernel
theorem dRd_readTons_69 : decode bRd_readTons 69 = .ok (.getfield 81, 3) := by decide +kernel
theorem dRd_readTons_72 : decode bRd_readTons 72 = .ok (.iastore, 1) := by decide +kernel
theorem dRd_readTons_73 : decode bRd_readTons 73 = .ok (.aload_n 0, 1) := by decide +kernel
theorem dRd_readTons_74 : decode bRd_readTons 74 = .ok (.invokevirtual 40, 3) := by decide +kernel
theorem dRd_readTons_77 : decode bRd_readTons 77 = .ok (.aload_n 0, 1) := by decide +kernel
theorem dRd_readTons_78 : decode bRd_readTons 78 = .ok (.bipush 44, 2) := by decide +kernel
theorem dRd_readTons_80 : decode bRd_readTons 80 = .ok (.invokevirtual 58, 3) := by decide +kernel
theorem dRd_readTons_83 : decode bRd_readTons 83 = .ok (.ifCond .ne 5, 3) := by decide +kernel
theorem dRd_readTons_86 : decode bRd_readTons 86 = .ok (.iconst 1, 1) := by decide +kernel
theorem dRd_readTons_87 : decode bRd_readTons 87 = .ok (.ireturn, 1) := by decide +kernel
theorem dRd_readTons_88 : decode bRd_readTons 88 = .ok (.iinc 4 1, 3) := by decide +kernel
theorem dRd_readTons_91 : decode bRd_readTons 91 = .ok (.goto (-84), 3) := by decide +kernel
theorem dRd_readTons_94 : decode bRd_readTons 94 = .ok (.aload_n 0, 1) := by decide +kernel
theorem dRd_readTons_95 : decode bRd_readTons 95 = .ok (.iconst 5, 1) := by decide +kernel
theorem dRd_readTons_96 : decode bRd_readTons 96 = .ok (.invokevirtual 54, 3) := by decide +kernel
theorem dRd_readTons_99 : decode bRd_readTons 99 = .ok (.ireturn, 1) := by decide +kernel
theorem dRd_passWord_0 : decode bRd_passWord 0 = .ok (.aload_n 0, 1) := by decide +kernel
theorem dRd_passWord_1 : decode bRd_passWord 1 = .ok (.aload_n 1, 1) := by decide +kernel
theorem dRd_passWord_2 : decode bRd_passWord 2 = .ok (.invokevirtual 95, 3) := by decide +kernel
theorem dRd_passWord_5 : decode bRd_passWord 5 = .ok (.ifCond .ne 9, 3) := by decide +kernel
theorem dRd_passWord_8 : decode bRd_passWord 8 = .ok (.aload_n 0, 1) := by decide +kernel
theorem dRd_passWord_9 : decode bRd_passWord 9 = .ok (.iconst 1, 1) := by decide +kernel
theorem dRd_passWord_10 : decode bRd_passWord 10 = .ok (.invokevirtual 54, 3) := by decide +kernel
theorem dRd_passWord_13 : decode bRd_passWord 13 = .ok (.ireturn, 1) := by decide +kernel
theorem dRd_passWord_14 : decode bRd_passWord 14 = .ok (.aload_n 0, 1) := by decide +kernel
theorem dRd_passWord_15 : decode bRd_passWord 15 = .ok (.invokevirtual 40, 3) := by decide +kernel
theorem dRd_passWord_18 : decode bRd_passWord 18 = .ok (.iconst 1, 1) := by decide +kernel
theorem dRd_passWord_19 : decode bRd_passWord 19 = .ok (.ireturn, 1) := by decide +kernel
theorem dRd_checkWhole_0 : decode bRd_checkWhole 0 = .ok (.aload_n 0, 1) := by decide +kernel
theorem dRd_checkWhole_1 : decode bRd_checkWhole 1 = .ok (.getfield 47, 3) := by decide +kernel
theorem dRd_checkWhole_4 : decode bRd_checkWhole 4 = .ok (.iconst 3, 1) := by decide +kernel
theorem dRd_checkWhole_5 : decode bRd_checkWhole 5 = .ok (.if_icmp .eq 9, 3) := by decide +kernel
theorem dRd_checkWhole_8 : decode bRd_checkWhole 8 = .ok (.aload_n 0, 1) := by decide +kernel
theorem dRd_checkWhole_9 : decode bRd_checkWhole 9 = .ok (.iconst 1, 1) := by decide +kernel
theorem dRd_checkWhole_10 : decode bRd_checkWhole 10 = .ok (.invokevirtual 54, 3) := by decide +kernel
theorem dRd_checkWhole_13 : decode bRd_checkWhole 13 = .ok (.ireturn, 1) := by decide +kernel
theorem dRd_checkWhole_14 : decode bRd_checkWhole 14 = .ok (.aload_n 0, 1) := by decide +kernel
theorem dRd_checkWhole_15 : decode bRd_checkWhole 15 = .ok (.getfield 81, 3) := by decide +kernel
theorem dRd_checkWhole_18 : decode bRd_checkWhole 18 = .ok (.iload_n 1, 1) := by decide +kernel
theorem dRd_checkWhole_19 : decode bRd_checkWhole 19 = .ok (.if_icmp .lt 11, 3) := by decide +kernel
theorem dRd_checkWhole_22 : decode bRd_checkWhole 22 = .ok (.aload_n 0, 1) := by decide +kernel
theorem dRd_checkWhole_23 : decode bRd_checkWhole 23 = .ok (.getfield 81, 3) := by decide +kernel
theorem dRd_checkWhole_26 : decode bRd_checkWhole 26 = .ok (.iload_n 2, 1) := by decide +kernel
theorem dRd_checkWhole_27 : decode bRd_checkWhole 27 = .ok (.if_icmp .le 11, 3) := by decide +kernel
theorem dRd_checkWhole_30 : decode bRd_checkWhole 30 = .ok (.aload_n 0, 1) := by decide +kernel
theorem dRd_checkWhole_31 : decode bRd_checkWhole 31 = .ok (.iconst 4, 1) := by decide +kernel
theorem dRd_checkWhole_32 : decode bRd_checkWhole 32 = .ok (.invokevirtual 54, 3) := by decide +kernel
theorem dRd_checkWhole_35 : decode bRd_checkWhole 35 = .ok (.goto 4, 3) := by decide +kernel
theorem dRd_checkWhole_38 : decode bRd_checkWhole 38 = .ok (.iconst 1, 1) := by decide +kernel
theorem dRd_checkWhole_39 : decode bRd_checkWhole 39 = .ok (.ireturn, 1) := by decide +kernel
theorem dRd_isTold_0 : decode bRd_isTold 0 = .ok (.aload_n 0, 1) := by decide +kernel
theorem dRd_isTold_1 : decode bRd_isTold 1 = .ok (.invokevirtual 173, 3) := by decide +kernel
theorem dRd_isTold_4 : decode bRd_isTold 4 = .ok (.lstore_n 2, 1) := by decide +kernel
theorem dRd_isTold_5 : decode bRd_isTold 5 = .ok (.lload_n 2, 1) := by decide +kernel
theorem dRd_isTold_6 : decode bRd_isTold 6 = .ok (.aload_n 0, 1) := by decide +kernel
theorem dRd_isTold_7 : decode bRd_isTold 7 = .ok (.getfield 15, 3) := by decide +kernel
theorem dRd_isTold_10 : decode bRd_isTold 10 = .ok (.aload_n 1, 1) := by decide +kernel
theorem dRd_isTold_11 : decode bRd_isTold 11 = .ok (.getfield 142, 3) := by decide +kernel
theorem dRd_isTold_14 : decode bRd_isTold 14 = .ok (.invokestatic 177, 3) := by decide +kernel
theorem dRd_isTold_17 : decode bRd_isTold 17 = .ok (.iconst (-1), 1) := by decide +kernel
theorem dRd_isTold_18 : decode bRd_isTold 18 = .ok (.if_icmp .ne 19, 3) := by decide +kernel
theorem dRd_isTold_21 : decode bRd_isTold 21 = .ok (.lload_n 2, 1) := by decide +kernel
theorem dRd_isTold_22 : decode bRd_isTold 22 = .ok (.aload_n 0, 1) := by decide +kernel
theorem dRd_isTold_23 : decode bRd_isTold 23 = .ok (.getfield 19, 3) := by decide +kernel
theorem dRd_isTold_26 : decode bRd_isTold 26 = .ok (.aload_n 1, 1) := by decide +kernel
theorem dRd_isTold_27 : decode bRd_isTold 27 = .ok (.getfield 149, 3) := by decide +kernel
theorem dRd_isTold_30 : decode bRd_isTold 30 = .ok (.invokestatic 177, 3) := by decide +kernel
theorem dRd_isTold_33 : decode bRd_isTold 33 = .ok (.iconst (-1), 1) := by decide +kernel
theorem dRd_isTold_34 : decode bRd_isTold 34 = .ok (.if_icmp .eq 7, 3) := by decide +kernel
theorem dRd_isTold_37 : decode bRd_isTold 37 = .ok (.iconst 1, 1) := by decide +kernel
theorem dRd_isTold_38 : decode bRd_isTold 38 = .ok (.goto 4, 3) := by decide +kernel
theorem dRd_isTold_41 : decode bRd_isTold 41 = .ok (.iconst 0, 1) := by decide +kernel
theorem dRd_isTold_42 : decode bRd_isTold 42 = .ok (.ireturn, 1) := by decide +kernel
theorem dJS_length_0 : decode bJS_length 0 = .ok (.aload_n 0, 1) := by decide +kernel
theorem dJS_length_1 : decode bJS_length 1 = .ok (.getfield 9, 3) := by decide +kernel
theorem dJS_length_4 : decode bJS_length 4 = .ok (.arraylength, 1) := by decide +kernel
theorem dJS_length_5 : decode bJS_length 5 = .ok (.aload_n 0, 1) := by decide +kernel
theorem dJS_length_6 : decode bJS_length 6 = .ok (.invokevirtual 335, 3) := by decide +kernel
theorem dJS_length_9 : decode bJS_length 9 = .ok (.ishr, 1) := by decide +kernel
theorem dJS_length_10 : decode bJS_length 10 = .ok (.ireturn, 1) := by decide +kernel
theorem dJS_charAt_0 : decode bJS_charAt 0 = .ok (.aload_n 0, 1) := by decide +kernel
theorem dJS_charAt_1 : decode bJS_charAt 1 = .ok (.invokevirtual 492, 3) := by decide +kernel
theorem dJS_charAt_4 : decode bJS_charAt 4 = .ok (.ifCond .eq 12, 3) := by decide +kernel
theorem dJS_charAt_7 : decode bJS_charAt 7 = .ok (.aload_n 0, 1) := by decide +kernel
theorem dJS_charAt_8 : decode bJS_charAt 8 = .ok (.getfield 9, 3) := by decide +kernel
theorem dJS_charAt_11 : decode bJS_charAt 11 = .ok (.iload_n 1, 1) := by decide +kernel
theorem dJS_charAt_12 : decode bJS_charAt 12 = .ok (.invokestatic 495, 3) := by decide +kernel
theorem dJS_charAt_15 : decode bJS_charAt 15 = .ok (.ireturn, 1) := by decide +kernel
theorem dJS_charAt_16 : decode bJS_charAt 16 = .ok (.aload_n 0, 1) := by decide +kernel
theorem dJS_charAt_17 : decode bJS_charAt 17 = .ok (.getfield 9, 3) := by decide +kernel
theorem dJS_charAt_20 : decode bJS_charAt 20 = .ok (.iload_n 1, 1) := by decide +kernel
theorem dJS_charAt_21 : decode bJS_charAt 21 = .ok (.invokestatic 498, 3) := by decide +kernel
theorem dJS_charAt_24 : decode bJS_charAt 24 = .ok (.ireturn, 1) := by decide +kernel
theorem dJS_coder_0 : decode bJS_coder 0 = .ok (.getstatic 38, 3) := by decide +kernel
theorem dJS_coder_3 : decode bJS_coder 3 = .ok (.ifCond .eq 10, 3) := by decide +kernel
theorem dJS_coder_6 : decode bJS_coder 6 = .ok (.aload_n 0, 1) := by decide +kernel
theorem dJS_coder_7 : decode bJS_coder 7 = .ok (.getfield 15, 3) := by decide +kernel
theorem dJS_coder_10 : decode bJS_coder 10 = .ok (.goto 4, 3) := by decide +kernel
theorem dJS_coder_13 : decode bJS_coder 13 = .ok (.iconst 1, 1) := by decide +kernel
theorem dJS_coder_14 : decode bJS_coder 14 = .ok (.ireturn, 1) := by decide +kernel
theorem dJS_isLatin1_0 : decode bJS_isLatin1 0 = .ok (.getstatic 38, 3) := by decide +kernel
theorem dJS_isLatin1_3 : decode bJS_isLatin1 3 = .ok (.ifCond .eq 14, 3) := by decide +kernel
theorem dJS_isLatin1_6 : decode bJS_isLatin1 6 = .ok (.aload_n 0, 1) := by decide +kernel
theorem dJS_isLatin1_7 : decode bJS_isLatin1 7 = .ok (.getfield 15, 3) := by decide +kernel
theorem dJS_isLatin1_10 : decode bJS_isLatin1 10 = .ok (.ifCond .ne 7, 3) := by decide +kernel
theorem dJS_isLatin1_13 : decode bJS_isLatin1 13 = .ok (.iconst 1, 1) := by decide +kernel
theorem dJS_isLatin1_14 : decode bJS_isLatin1 14 = .ok (.goto 4, 3) := by decide +kernel
theorem dJS_isLatin1_17 : decode bJS_isLatin1 17 = .ok (.iconst 0, 1) := by decide +kernel
theorem dJS_isLatin1_18 : decode bJS_isLatin1 18 = .ok (.ireturn, 1) := by decide +kernel
theorem dJS_checkIndex_0 : decode bJS_checkIndex 0 = .ok (.iload_n 0, 1) := by decide +kernel
theorem dJS_checkIndex_1 : decode bJS_checkIndex 1 = .ok (.iload_n 1, 1) := by decide +kernel
theorem dJS_checkIndex_2 : decode bJS_checkIndex 2 = .ok (.getstatic 1053, 3) := by decide +kernel
theorem dJS_checkIndex_5 : decode bJS_checkIndex 5 = .ok (.invokestatic 1059, 3) := by decide +kernel
theorem dJS_checkIndex_8 : decode bJS_checkIndex 8 = .ok (.pop, 1) := by decide +kernel
theorem dJS_checkIndex_9 : decode bJS_checkIndex 9 = .ok (.return_, 1) := by decide +kernel
theorem dJL_charAt_0 : decode bJL_charAt 0 = .ok (.iload_n 1, 1) := by decide +kernel
theorem dJL_charAt_1 : decode bJL_charAt 1 = .ok (.aload_n 0, 1) := by decide +kernel
theorem dJL_charAt_2 : decode bJL_charAt 2 = .ok (.arraylength, 1) := by decide +kernel
theorem dJL_charAt_3 : decode bJL_charAt 3 = .ok (.invokestatic 9, 3) := by decide +kernel
theorem dJL_charAt_6 : decode bJL_charAt 6 = .ok (.aload_n 0, 1) := by decide +kernel
theorem dJL_charAt_7 : decode bJL_charAt 7 = .ok (.iload_n 1, 1) := by decide +kernel
theorem dJL_charAt_8 : decode bJL_charAt 8 = .ok (.baload, 1) := by decide +kernel
theorem dJL_charAt_9 : decode bJL_charAt 9 = .ok (.sipush 255, 3) := by decide +kernel
theorem dJL_charAt_12 : decode bJL_charAt 12 = .ok (.iand, 1) := by decide +kernel
theorem dJL_charAt_13 : decode bJL_charAt 13 = .ok (.i2c, 1) := by decide +kernel
theorem dJL_charAt_14 : decode bJL_charAt 14 = .ok (.ireturn, 1) := by decide +kernel
theorem dJP_checkIndex_0 : decode bJP_checkIndex 0 = .ok (.iload_n 0, 1) := by decide +kernel
theorem dJP_checkIndex_1 : decode bJP_checkIndex 1 = .ok (.ifCond .lt 8, 3) := by decide +kernel
theorem dJP_checkIndex_4 : decode bJP_checkIndex 4 = .ok (.iload_n 0, 1) := by decide +kernel
theorem dJP_checkIndex_5 : decode bJP_checkIndex 5 = .ok (.iload_n 1, 1) := by decide +kernel
theorem dJP_checkIndex_6 : decode bJP_checkIndex 6 = .ok (.if_icmp .lt 10, 3) := by decide +kernel
theorem dJP_checkIndex_9 : decode bJP_checkIndex 9 = .ok (.aload_n 2, 1) := by decide +kernel
theorem dJP_checkIndex_10 : decode bJP_checkIndex 10 = .ok (.iload_n 0, 1) := by decide +kernel
theorem dJP_checkIndex_11 : decode bJP_checkIndex 11 = .ok (.iload_n 1, 1) := by decide +kernel
theorem dJP_checkIndex_12 : decode bJP_checkIndex 12 = .ok (.invokestatic 95, 3) := by decide +kernel
theorem dJP_checkIndex_15 : decode bJP_checkIndex 15 = .ok (.athrow, 1) := by decide +kernel
theorem dJP_checkIndex_16 : decode bJP_checkIndex 16 = .ok (.iload_n 0, 1) := by decide +kernel
theorem dJP_checkIndex_17 : decode bJP_checkIndex 17 = .ok (.ireturn, 1) := by decide +kernel
