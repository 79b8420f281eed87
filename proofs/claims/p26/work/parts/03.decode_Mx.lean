theorem dMx_init_0 : decode bMx_init 0 = .ok (.aload_n 0, 1) := by decide +kernel
theorem dMx_init_1 : decode bMx_init 1 = .ok (.invokespecial 3, 3) := by decide +kernel
theorem dMx_init_4 : decode bMx_init 4 = .ok (.aload_n 0, 1) := by decide +kernel
theorem dMx_init_5 : decode bMx_init 5 = .ok (.iconst (-1), 1) := by decide +kernel
theorem dMx_init_6 : decode bMx_init 6 = .ok (.putfield 9, 3) := by decide +kernel
theorem dMx_init_9 : decode bMx_init 9 = .ok (.aload_n 0, 1) := by decide +kernel
theorem dMx_init_10 : decode bMx_init 10 = .ok (.iconst (-1), 1) := by decide +kernel
theorem dMx_init_11 : decode bMx_init 11 = .ok (.putfield 15, 3) := by decide +kernel
theorem dMx_init_14 : decode bMx_init 14 = .ok (.aload_n 0, 1) := by decide +kernel
theorem dMx_init_15 : decode bMx_init 15 = .ok (.iconst (-1), 1) := by decide +kernel
theorem dMx_init_16 : decode bMx_init 16 = .ok (.putfield 18, 3) := by decide +kernel
theorem dMx_init_19 : decode bMx_init 19 = .ok (.aload_n 0, 1) := by decide +kernel
theorem dMx_init_20 : decode bMx_init 20 = .ok (.iconst (-1), 1) := by decide +kernel
theorem dMx_init_21 : decode bMx_init 21 = .ok (.putfield 21, 3) := by decide +kernel
theorem dMx_init_24 : decode bMx_init 24 = .ok (.aload_n 0, 1) := by decide +kernel
theorem dMx_init_25 : decode bMx_init 25 = .ok (.bipush 6, 2) := by decide +kernel
theorem dMx_init_27 : decode bMx_init 27 = .ok (.newarray .int, 2) := by decide +kernel
theorem dMx_init_29 : decode bMx_init 29 = .ok (.putfield 24, 3) := by decide +kernel
theorem dMx_init_32 : decode bMx_init 32 = .ok (.aload_n 0, 1) := by decide +kernel
theorem dMx_init_33 : decode bMx_init 33 = .ok (.iconst 5, 1) := by decide +kernel
theorem dMx_init_34 : decode bMx_init 34 = .ok (.newarray .int, 2) := by decide +kernel
theorem dMx_init_36 : decode bMx_init 36 = .ok (.putfield 28, 3) := by decide +kernel
theorem dMx_init_39 : decode bMx_init 39 = .ok (.aload_n 0, 1) := by decide +kernel
theorem dMx_init_40 : decode bMx_init 40 = .ok (.iconst 5, 1) := by decide +kernel
theorem dMx_init_41 : decode bMx_init 41 = .ok (.newarray .int, 2) := by decide +kernel
theorem dMx_init_43 : decode bMx_init 43 = .ok (.putfield 31, 3) := by decide +kernel
theorem dMx_init_46 : decode bMx_init 46 = .ok (.aload_n 0, 1) := by decide +kernel
theorem dMx_init_47 : decode bMx_init 47 = .ok (.iconst 4, 1) := by decide +kernel
theorem dMx_init_48 : decode bMx_init 48 = .ok (.newarray .int, 2) := by decide +kernel
theorem dMx_init_50 : decode bMx_init 50 = .ok (.putfield 34, 3) := by decide +kernel
theorem dMx_init_53 : decode bMx_init 53 = .ok (.aload_n 0, 1) := by decide +kernel
theorem dMx_init_54 : decode bMx_init 54 = .ok (.bipush 20, 2) := by decide +kernel
theorem dMx_init_56 : decode bMx_init 56 = .ok (.newarray .int, 2) := by decide +kernel
theorem dMx_init_58 : decode bMx_init 58 = .ok (.putfield 37, 3) := by decide +kernel
theorem dMx_init_61 : decode bMx_init 61 = .ok (.aload_n 0, 1) := by decide +kernel
theorem dMx_init_62 : decode bMx_init 62 = .ok (.bipush 9, 2) := by decide +kernel
theorem dMx_init_64 : decode bMx_init 64 = .ok (.newarray .long, 2) := by decide +kernel
theorem dMx_init_66 : decode bMx_init 66 = .ok (.putfield 40, 3) := by decide +kernel
theorem dMx_init_69 : decode bMx_init 69 = .ok (.aload_n 0, 1) := by decide +kernel
theorem dMx_init_70 : decode bMx_init 70 = .ok (.bipush 9, 2) := by decide +kernel
theorem dMx_init_72 : decode bMx_init 72 = .ok (.newarray .int, 2) := by decide +kernel
theorem dMx_init_74 : decode bMx_init 74 = .ok (.putfield 44, 3) := by decide +kernel
theorem dMx_init_77 : decode bMx_init 77 = .ok (.return_, 1) := by decide +kernel
theorem dMx_find_0 : decode bMx_find 0 = .ok (.iconst 0, 1) := by decide +kernel
theorem dMx_find_1 : decode bMx_find 1 = .ok (.istore_n 3, 1) := by decide +kernel
theorem dMx_find_2 : decode bMx_find 2 = .ok (.iload_n 3, 1) := by decide +kernel
theorem dMx_find_3 : decode bMx_find 3 = .ok (.aload_n 0, 1) := by decide +kernel
theorem dMx_find_4 : decode bMx_find 4 = .ok (.getfield 47, 3) := by decide +kernel
theorem dMx_find_7 : decode bMx_find 7 = .ok (.if_icmp .ge 22, 3) := by decide +kernel
theorem dMx_find_10 : decode bMx_find 10 = .ok (.aload_n 0, 1) := by decide +kernel
theorem dMx_find_11 : decode bMx_find 11 = .ok (.getfield 40, 3) := by decide +kernel
theorem dMx_find_14 : decode bMx_find 14 = .ok (.iload_n 3, 1) := by decide +kernel
theorem dMx_find_15 : decode bMx_find 15 = .ok (.laload, 1) := by decide +kernel
theorem dMx_find_16 : decode bMx_find 16 = .ok (.lload_n 1, 1) := by decide +kernel
theorem dMx_find_17 : decode bMx_find 17 = .ok (.lcmp, 1) := by decide +kernel
theorem dMx_find_18 : decode bMx_find 18 = .ok (.ifCond .ne 5, 3) := by decide +kernel
theorem dMx_find_21 : decode bMx_find 21 = .ok (.iload_n 3, 1) := by decide +kernel
theorem dMx_find_22 : decode bMx_find 22 = .ok (.ireturn, 1) := by decide +kernel
theorem dMx_find_23 : decode bMx_find 23 = .ok (.iinc 3 1, 3) := by decide +kernel
theorem dMx_find_26 : decode bMx_find 26 = .ok (.goto (-24), 3) := by decide +kernel
theorem dMx_find_29 : decode bMx_find 29 = .ok (.iconst (-1), 1) := by decide +kernel
theorem dMx_find_30 : decode bMx_find 30 = .ok (.ireturn, 1) := by decide +kernel
theorem dMo_init_0 : decode bMo_init 0 = .ok (.aload_n 0, 1) := by decide +kernel
theorem dMo_init_1 : decode bMo_init 1 = .ok (.invokespecial 1, 3) := by decide +kernel
theorem dMo_init_4 : decode bMo_init 4 = .ok (.aload_n 0, 1) := by decide +kernel
theorem dMo_init_5 : decode bMo_init 5 = .ok (.iconst (-1), 1) := by decide +kernel
theorem dMo_init_6 : decode bMo_init 6 = .ok (.putfield 9, 3) := by decide +kernel
theorem dMo_init_9 : decode bMo_init 9 = .ok (.aload_n 0, 1) := by decide +kernel
theorem dMo_init_10 : decode bMo_init 10 = .ok (.sipush 700, 3) := by decide +kernel
theorem dMo_init_13 : decode bMo_init 13 = .ok (.newarray .byte, 2) := by decide +kernel
theorem dMo_init_15 : decode bMo_init 15 = .ok (.putfield 13, 3) := by decide +kernel
theorem dMo_init_18 : decode bMo_init 18 = .ok (.aload_n 0, 1) := by decide +kernel
theorem dMo_init_19 : decode bMo_init 19 = .ok (.bipush 37, 2) := by decide +kernel
theorem dMo_init_21 : decode bMo_init 21 = .ok (.newarray .int, 2) := by decide +kernel
theorem dMo_init_23 : decode bMo_init 23 = .ok (.putfield 17, 3) := by decide +kernel
theorem dMo_init_26 : decode bMo_init 26 = .ok (.aload_n 0, 1) := by decide +kernel
theorem dMo_init_27 : decode bMo_init 27 = .ok (.bipush 37, 2) := by decide +kernel
theorem dMo_init_29 : decode bMo_init 29 = .ok (.newarray .int, 2) := by decide +kernel
theorem dMo_init_31 : decode bMo_init 31 = .ok (.putfield 21, 3) := by decide +kernel
theorem dMo_init_34 : decode bMo_init 34 = .ok (.aload_n 0, 1) := by decide +kernel
theorem dMo_init_35 : decode bMo_init 35 = .ok (.sipush 240, 3) := by decide +kernel
theorem dMo_init_38 : decode bMo_init 38 = .ok (.newarray .int, 2) := by decide +kernel
theorem dMo_init_40 : decode bMo_init 40 = .ok (.putfield 24, 3) := by decide +kernel
theorem dMo_init_43 : decode bMo_init 43 = .ok (.aload_n 0, 1) := by decide +kernel
theorem dMo_init_44 : decode bMo_init 44 = .ok (.bipush 12, 2) := by decide +kernel
theorem dMo_init_46 : decode bMo_init 46 = .ok (.newarray .int, 2) := by decide +kernel
theorem dMo_init_48 : decode bMo_init 48 = .ok (.putfield 27, 3) := by decide +kernel
theorem dMo_init_51 : decode bMo_init 51 = .ok (.aload_n 0, 1) := by decide +kernel
theorem dMo_init_52 : decode bMo_init 52 = .ok (.bipush 12, 2) := by decide +kernel
theorem dMo_init_54 : decode bMo_init 54 = .ok (.newarray .int, 2) := by decide +kernel
theorem dMo_init_56 : decode bMo_init 56 = .ok (.putfield 30, 3) := by decide +kernel
theorem dMo_init_59 : decode bMo_init 59 = .ok (.aload_n 0, 1) := by decide +kernel
theorem dMo_init_60 : decode bMo_init 60 = .ok (.bipush 12, 2) := by decide +kernel
theorem dMo_init_62 : decode bMo_init 62 = .ok (.newarray .int, 2) := by decide +kernel
theorem dMo_init_64 : decode bMo_init 64 = .ok (.putfield 33, 3) := by decide +kernel
theorem dMo_init_67 : decode bMo_init 67 = .ok (.aload_n 0, 1) := by decide +kernel
theorem dMo_init_68 : decode bMo_init 68 = .ok (.bipush 24, 2) := by decide +kernel
theorem dMo_init_70 : decode bMo_init 70 = .ok (.newarray .int, 2) := by decide +kernel
theorem dMo_init_72 : decode bMo_init 72 = .ok (.putfield 36, 3) := by decide +kernel
theorem dMo_init_75 : decode bMo_init 75 = .ok (.aload_n 0, 1) := by decide +kernel
theorem dMo_init_76 : decode bMo_init 76 = .ok (.bipush 24, 2) := by decide +kernel
theorem dMo_init_78 : decode bMo_init 78 = .ok (.newarray .int, 2) := by decide +kernel
theorem dMo_init_80 : decode bMo_init 80 = .ok (.putfield 39, 3) := by decide +kernel
theorem dMo_init_83 : decode bMo_init 83 = .ok (.aload_n 0, 1) := by decide +kernel
theorem dMo_init_84 : decode bMo_init 84 = .ok (.bipush 24, 2) := by decide +kernel
theorem dMo_init_86 : decode bMo_init 86 = .ok (.newarray .int, 2) := by decide +kernel
theorem dMo_init_88 : decode bMo_init 88 = .ok (.putfield 42, 3) := by decide +kernel
theorem dMo_init_91 : decode bMo_init 91 = .ok (.aload_n 0, 1) := by decide +kernel
theorem dMo_init_92 : decode bMo_init 92 = .ok (.bipush 24, 2) := by decide +kernel
theorem dMo_init_94 : decode bMo_init 94 = .ok (.newarray .int, 2) := by decide +kernel
theorem dMo_init_96 : decode bMo_init 96 = .ok (.putfield 45, 3) := by decide +kernel
theorem dMo_init_99 : decode bMo_init 99 = .ok (.aload_n 0, 1) := by decide +kernel
theorem dMo_init_100 : decode bMo_init 100 = .ok (.bipush 100, 2) := by decide +kernel
theorem dMo_init_102 : decode bMo_init 102 = .ok (.newarray .int, 2) := by decide +kernel
theorem dMo_init_104 : decode bMo_init 104 = .ok (.putfield 48, 3) := by decide +kernel
theorem dMo_init_107 : decode bMo_init 107 = .ok (.aload_n 0, 1) := by decide +kernel
theorem dMo_init_108 : decode bMo_init 108 = .ok (.iconst 5, 1) := by decide +kernel
theorem dMo_init_109 : decode bMo_init 109 = .ok (.newarray .int, 2) := by decide +kernel
theorem dMo_init_111 : decode bMo_init 111 = .ok (.putfield 51, 3) := by decide +kernel
theorem dMo_init_114 : decode bMo_init 114 = .ok (.aload_n 0, 1) := by decide +kernel
theorem dMo_init_115 : decode bMo_init 115 = .ok (.iconst 5, 1) := by decide +kernel
theorem dMo_init_116 : decode bMo_init 116 = .ok (.newarray .int, 2) := by decide +kernel
theorem dMo_init_118 : decode bMo_init 118 = .ok (.putfield 54, 3) := by decide +kernel
theorem dMo_init_121 : decode bMo_init 121 = .ok (.aload_n 0, 1) := by decide +kernel
theorem dMo_init_122 : decode bMo_init 122 = .ok (.bipush 37, 2) := by decide +kernel
theorem dMo_init_124 : decode bMo_init 124 = .ok (.newarray .int, 2) := by decide +kernel
theorem dMo_init_126 : decode bMo_init 126 = .ok (.putfield 57, 3) := by decide +kernel
theorem dMo_init_129 : decode bMo_init 129 = .ok (.aload_n 0, 1) := by decide +kernel
theorem dMo_init_130 : decode bMo_init 130 = .ok (.iconst 2, 1) := by decide +kernel
theorem dMo_init_131 : decode bMo_init 131 = .ok (.newarray .int, 2) := by decide +kernel
theorem dMo_init_133 : decode bMo_init 133 = .ok (.putfield 60, 3) := by decide +kernel
theorem dMo_init_136 : decode bMo_init 136 = .ok (.aload_n 0, 1) := by decide +kernel
theorem dMo_init_137 : decode bMo_init 137 = .ok (.bipush 16, 2) := by decide +kernel
theorem dMo_init_139 : decode bMo_init 139 = .ok (.newarray .int, 2) := by decide +kernel
theorem dMo_init_141 : decode bMo_init 141 = .ok (.putfield 63, 3) := by decide +kernel
theorem dMo_init_144 : decode bMo_init 144 = .ok (.aload_n 0, 1) := by decide +kernel
theorem dMo_init_145 : decode bMo_init 145 = .ok (.iconst 5, 1) := by decide +kernel
theorem dMo_init_146 : decode bMo_init 146 = .ok (.newarray .long, 2) := by decide +kernel
theorem dMo_init_148 : decode bMo_init 148 = .ok (.putfield 66, 3) := by decide +kernel
theorem dMo_init_151 : decode bMo_init 151 = .ok (.aload_n 0, 1) := by decide +kernel
theorem dMo_init_152 : decode bMo_init 152 = .ok (.iconst 5, 1) := by decide +kernel
theorem dMo_init_153 : decode bMo_init 153 = .ok (.newarray .long, 2) := by decide +kernel
theorem dMo_init_155 : decode bMo_init 155 = .ok (.putfield 70, 3) := by decide +kernel
theorem dMo_init_158 : decode bMo_init 158 = .ok (.return_, 1) := by decide +kernel
theorem dMo_refused_0 : decode bMo_refused 0 = .ok (.aload_n 0, 1) := by decide +kernel
theorem dMo_refused_1 : decode bMo_refused 1 = .ok (.iload_n 1, 1) := by decide +kernel
theorem dMo_refused_2 : decode bMo_refused 2 = .ok (.putfield 76, 3) := by decide +kernel
theorem dMo_refused_5 : decode bMo_refused 5 = .ok (.aload_n 0, 1) := by decide +kernel
theorem dMo_refused_6 : decode bMo_refused 6 = .ok (.iconst (-1), 1) := by decide +kernel
theorem dMo_refused_7 : decode bMo_refused 7 = .ok (.putfield 9, 3) := by decide +kernel
theorem dMo_refused_10 : decode bMo_refused 10 = .ok (.iconst (-1), 1) := by decide +kernel
theorem dMo_refused_11 : decode bMo_refused 11 = .ok (.ireturn, 1) := by decide +kernel
theorem dMo_denied_0 : decode bMo_denied 0 = .ok (.aload_n 0, 1) := by decide +kernel
theorem dMo_denied_1 : decode bMo_denied 1 = .ok (.iload_n 1, 1) := by decide +kernel
theorem dMo_denied_2 : decode bMo_denied 2 = .ok (.putfield 76, 3) := by decide +kernel
theorem dMo_denied_5 : decode bMo_denied 5 = .ok (.aload_n 0, 1) := by decide +kernel
theorem dMo_denied_6 : decode bMo_denied 6 = .ok (.iconst (-1), 1) := by decide +kernel
theorem dMo_denied_7 : decode bMo_denied 7 = .ok (.putfield 9, 3) := by decide +kernel
theorem dMo_denied_10 : decode bMo_denied 10 = .ok (.iconst 0, 1) := by decide +kernel
theorem dMo_denied_11 : decode bMo_denied 11 = .ok (.ireturn, 1) := by decide +kernel
theorem dMo_done_0 : decode bMo_done 0 = .ok (.aload_n 0, 1) := by decide +kernel
theorem dMo_done_1 : decode bMo_done 1 = .ok (.iconst 0, 1) := by decide +kernel
theorem dMo_done_2 : decode bMo_done 2 = .ok (.putfield 76, 3) := by decide +kernel
theorem dMo_done_5 : decode bMo_done 5 = .ok (.aload_n 0, 1) := by decide +kernel
theorem dMo_done_6 : decode bMo_done 6 = .ok (.iconst (-1), 1) := by decide +kernel
theorem dMo_done_7 : decode bMo_done 7 = .ok (.putfield 9, 3) := by decide +kernel
theorem dMo_done_10 : decode bMo_done 10 = .ok (.iload_n 1, 1) := by decide +kernel
theorem dMo_done_11 : decode bMo_done 11 = .ok (.ireturn, 1) := by decide +kernel
theorem dMo_granted_0 : decode bMo_granted 0 = .ok (.aload_n 0, 1) := by decide +kernel
theorem dMo_granted_1 : decode bMo_granted 1 = .ok (.iconst 0, 1) := by decide +kernel
theorem dMo_granted_2 : decode bMo_granted 2 = .ok (.putfield 76, 3) := by decide +kernel
theorem dMo_granted_5 : decode bMo_granted 5 = .ok (.aload_n 0, 1) := by decide +kernel
theorem dMo_granted_6 : decode bMo_granted 6 = .ok (.iconst (-1), 1) := by decide +kernel
theorem dMo_granted_7 : decode bMo_granted 7 = .ok (.putfield 9, 3) := by decide +kernel
theorem dMo_granted_10 : decode bMo_granted 10 = .ok (.iconst 1, 1) := by decide +kernel
theorem dMo_granted_11 : decode bMo_granted 11 = .ok (.ireturn, 1) := by decide +kernel
theorem dMo_in_0 : decode bMo_in 0 = .ok (.iload_n 0, 1) := by decide +kernel
theorem dMo_in_1 : decode bMo_in 1 = .ok (.iload_n 1, 1) := by decide +kernel
theorem dMo_in_2 : decode bMo_in 2 = .ok (.if_icmp .lt 12, 3) := by decide +kernel
theorem dMo_in_5 : decode bMo_in 5 = .ok (.iload_n 0, 1) := by decide +kernel
theorem dMo_in_6 : decode bMo_in 6 = .ok (.iload_n 2, 1) := by decide +kernel
theorem dMo_in_7 : decode bMo_in 7 = .ok (.if_icmp .gt 7, 3) := by decide +kernel
theorem dMo_in_10 : decode bMo_in 10 = .ok (.iconst 1, 1) := by decide +kernel
theorem dMo_in_11 : decode bMo_in 11 = .ok (.goto 4, 3) := by decide +kernel
theorem dMo_in_14 : decode bMo_in 14 = .ok (.iconst 0, 1) := by decide +kernel
theorem dMo_in_15 : decode bMo_in 15 = .ok (.ireturn, 1) := by decide +kernel
theorem dMo_byteAt_0 : decode bMo_byteAt 0 = .ok (.iload_n 1, 1) := by decide +kernel
theorem dMo_byteAt_1 : decode bMo_byteAt 1 = .ok (.aload_n 0, 1) := by decide +kernel
theorem dMo_byteAt_2 : decode bMo_byteAt 2 = .ok (.getfield 79, 3) := by decide +kernel
theorem dMo_byteAt_5 : decode bMo_byteAt 5 = .ok (.if_icmp .ge 16, 3) := by decide +kernel
theorem dMo_byteAt_8 : decode bMo_byteAt 8 = .ok (.aload_n 0, 1) := by decide +kernel
theorem dMo_byteAt_9 : decode bMo_byteAt 9 = .ok (.getfield 13, 3) := by decide +kernel
theorem dMo_byteAt_12 : decode bMo_byteAt 12 = .ok (.iload_n 1, 1) := by decide +kernel
theorem dMo_byteAt_13 : decode bMo_byteAt 13 = .ok (.baload, 1) := by decide +kernel
theorem dMo_byteAt_14 : decode bMo_byteAt 14 = .ok (.sipush 255, 3) := by decide +kernel
theorem dMo_byteAt_17 : decode bMo_byteAt 17 = .ok (.iand, 1) := by decide +kernel
theorem dMo_byteAt_18 : decode bMo_byteAt 18 = .ok (.goto 4, 3) := by decide +kernel
theorem dMo_byteAt_21 : decode bMo_byteAt 21 = .ok (.iconst (-1), 1) := by decide +kernel
theorem dMo_byteAt_22 : decode bMo_byteAt 22 = .ok (.ireturn, 1) := by decide +kernel
theorem dMo_isLetter_0 : decode bMo_isLetter 0 = .ok (.iload_n 0, 1) := by decide +kernel
theorem dMo_isLetter_1 : decode bMo_isLetter 1 = .ok (.bipush 97, 2) := by decide +kernel
theorem dMo_isLetter_3 : decode bMo_isLetter 3 = .ok (.if_icmp .lt 13, 3) := by decide +kernel
theorem dMo_isLetter_6 : decode bMo_isLetter 6 = .ok (.iload_n 0, 1) := by decide +kernel
theorem dMo_isLetter_7 : decode bMo_isLetter 7 = .ok (.bipush 122, 2) := by decide +kernel
theorem dMo_isLetter_9 : decode bMo_isLetter 9 = .ok (.if_icmp .gt 7, 3) := by decide +kernel
theorem dMo_isLetter_12 : decode bMo_isLetter 12 = .ok (.iconst 1, 1) := by decide +kernel
theorem dMo_isLetter_13 : decode bMo_isLetter 13 = .ok (.goto 4, 3) := by decide +kernel
theorem dMo_isLetter_16 : decode bMo_isLetter 16 = .ok (.iconst 0, 1) := by decide +kernel
theorem dMo_isLetter_17 : decode bMo_isLetter 17 = .ok (.ireturn, 1) := by decide +kernel
theorem dMo_isDigit_0 : decode bMo_isDigit 0 = .ok (.iload_n 0, 1) := by decide +kernel
theorem dMo_isDigit_1 : decode bMo_isDigit 1 = .ok (.bipush 48, 2) := by decide +kernel
theorem dMo_isDigit_3 : decode bMo_isDigit 3 = .ok (.if_icmp .lt 13, 3) := by decide +kernel
theorem dMo_isDigit_6 : decode bMo_isDigit 6 = .ok (.iload_n 0, 1) := by decide +kernel
theorem dMo_isDigit_7 : decode bMo_isDigit 7 = .ok (.bipush 57, 2) := by decide +kernel
theorem dMo_isDigit_9 : decode bMo_isDigit 9 = .ok (.if_icmp .gt 7, 3) := by decide +kernel
theorem dMo_isDigit_12 : decode bMo_isDigit 12 = .ok (.iconst 1, 1) := by decide +kernel
theorem dMo_isDigit_13 : decode bMo_isDigit 13 = .ok (.goto 4, 3) := by decide +kernel
theorem dMo_isDigit_16 : decode bMo_isDigit 16 = .ok (.iconst 0, 1) := by decide +kernel
theorem dMo_isDigit_17 : decode bMo_isDigit 17 = .ok (.ireturn, 1) := by decide +kernel
theorem dMo_wordOf_0 : decode bMo_wordOf 0 = .ok (.lconst 0, 1) := by decide +kernel
theorem dMo_wordOf_1 : decode bMo_wordOf 1 = .ok (.lstore_n 1, 1) := by decide +kernel
theorem dMo_wordOf_2 : decode bMo_wordOf 2 = .ok (.iconst 0, 1) := by decide +kernel
theorem dMo_wordOf_3 : decode bMo_wordOf 3 = .ok (.istore_n 3, 1) := by decide +kernel
theorem dMo_wordOf_4 : decode bMo_wordOf 4 = .ok (.iload_n 3, 1) := by decide +kernel
theorem dMo_wordOf_5 : decode bMo_wordOf 5 = .ok (.aload_n 0, 1) := by decide +kernel
theorem dMo_wordOf_6 : decode bMo_wordOf 6 = .ok (.invokevirtual 82, 3) := by decide +kernel
theorem dMo_wordOf_9 : decode bMo_wordOf 9 = .ok (.if_icmp .ge 27, 3) := by decide +kernel
theorem dMo_wordOf_12 : decode bMo_wordOf 12 = .ok (.ldc2_w 88, 3) := by decide +kernel
theorem dMo_wordOf_15 : decode bMo_wordOf 15 = .ok (.lload_n 1, 1) := by decide +kernel
theorem dMo_wordOf_16 : decode bMo_wordOf 16 = .ok (.lmul, 1) := by decide +kernel
theorem dMo_wordOf_17 : decode bMo_wordOf 17 = .ok (.aload_n 0, 1) := by decide +kernel
theorem dMo_wordOf_18 : decode bMo_wordOf 18 = .ok (.iload_n 3, 1) := by decide +kernel
theorem dMo_wordOf_19 : decode bMo_wordOf 19 = .ok (.invokevirtual 90, 3) := by decide +kernel
theorem dMo_wordOf_22 : decode bMo_wordOf 22 = .ok (.bipush 97, 2) := by decide +kernel
theorem dMo_wordOf_24 : decode bMo_wordOf 24 = .ok (.isub, 1) := by decide +kernel
theorem dMo_wordOf_25 : decode bMo_wordOf 25 = .ok (.iconst 1, 1) := by decide +kernel
theorem dMo_wordOf_26 : decode bMo_wordOf 26 = .ok (.iadd, 1) := by decide +kernel
theorem dMo_wordOf_27 : decode bMo_wordOf 27 = .ok (.i2l, 1) := by decide +kernel
theorem dMo_wordOf_28 : decode bMo_wordOf 28 = .ok (.ladd, 1) := by decide +kernel
theorem dMo_wordOf_29 : decode bMo_wordOf 29 = .ok (.lstore_n 1, 1) := by decide +kernel
theorem dMo_wordOf_30 : decode bMo_wordOf 30 = .ok (.iinc 3 1, 3) := by decide +kernel
theorem dMo_wordOf_33 : decode bMo_wordOf 33 = .ok (.goto (-29), 3) := by decide +kernel
theorem dMo_wordOf_36 : decode bMo_wordOf 36 = .ok (.lload_n 1, 1) := by decide +kernel
theorem dMo_wordOf_37 : decode bMo_wordOf 37 = .ok (.lreturn, 1) := by decide +kernel
theorem dMo_next_0 : decode bMo_next 0 = .ok (.aload_n 0, 1) := by decide +kernel
theorem dMo_next_1 : decode bMo_next 1 = .ok (.getfield 94, 3) := by decide +kernel
theorem dMo_next_4 : decode bMo_next 4 = .ok (.iconst 5, 1) := by decide +kernel
theorem dMo_next_5 : decode bMo_next 5 = .ok (.if_icmp .ne 4, 3) := by decide +kernel
theorem dMo_next_8 : decode bMo_next 8 = .ok (.return_, 1) := by decide +kernel
theorem dMo_next_9 : decode bMo_next 9 = .ok (.aload_n 0, 1) := by decide +kernel
theorem dMo_next_10 : decode bMo_next 10 = .ok (.aload_n 0, 1) := by decide +kernel
theorem dMo_next_11 : decode bMo_next 11 = .ok (.getfield 97, 3) := by decide +kernel
theorem dMo_next_14 : decode bMo_next 14 = .ok (.invokevirtual 100, 3) := by decide +kernel
theorem dMo_next_17 : decode bMo_next 17 = .ok (.bipush 32, 2) := by decide +kernel
theorem dMo_next_19 : decode bMo_next 19 = .ok (.if_icmp .ne 16, 3) := by decide +kernel
theorem dMo_next_22 : decode bMo_next 22 = .ok (.aload_n 0, 1) := by decide +kernel
theorem dMo_next_23 : decode bMo_next 23 = .ok (.dup, 1) := by decide +kernel
theorem dMo_next_24 : decode bMo_next 24 = .ok (.getfield 97, 3) := by decide +kernel
theorem dMo_next_27 : decode bMo_next 27 = .ok (.iconst 1, 1) := by decide +kernel
theorem dMo_next_28 : decode bMo_next 28 = .ok (.iadd, 1) := by decide +kernel
theorem dMo_next_29 : decode bMo_next 29 = .ok (.putfield 97, 3) := by decide +kernel
theorem dMo_next_32 : decode bMo_next 32 = .ok (.goto (-23), 3) := by decide +kernel
theorem dMo_next_35 : decode bMo_next 35 = .ok (.aload_n 0, 1) := by decide +kernel
theorem dMo_next_36 : decode bMo_next 36 = .ok (.aload_n 0, 1) := by decide +kernel
theorem dMo_next_37 : decode bMo_next 37 = .ok (.getfield 97, 3) := by decide +kernel
theorem dMo_next_40 : decode bMo_next 40 = .ok (.putfield 104, 3) := by decide +kernel
theorem dMo_next_43 : decode bMo_next 43 = .ok (.aload_n 0, 1) := by decide +kernel
theorem dMo_next_44 : decode bMo_next 44 = .ok (.iconst 0, 1) := by decide +kernel
theorem dMo_next_45 : decode bMo_next 45 = .ok (.putfield 94, 3) := by decide +kernel
theorem dMo_next_48 : decode bMo_next 48 = .ok (.aload_n 0, 1) := by decide +kernel
theorem dMo_next_49 : decode bMo_next 49 = .ok (.iconst 0, 1) := by decide +kernel
theorem dMo_next_50 : decode bMo_next 50 = .ok (.putfield 107, 3) := by decide +kernel
theorem dMo_next_53 : decode bMo_next 53 = .ok (.aload_n 0, 1) := by decide +kernel
theorem dMo_next_54 : decode bMo_next 54 = .ok (.aload_n 0, 1) := by decide +kernel
theorem dMo_next_55 : decode bMo_next 55 = .ok (.getfield 97, 3) := by decide +kernel
theorem dMo_next_58 : decode bMo_next 58 = .ok (.invokevirtual 100, 3) := by decide +kernel
theorem dMo_next_61 : decode bMo_next 61 = .ok (.istore_n 1, 1) := by decide +kernel
theorem dMo_next_62 : decode bMo_next 62 = .ok (.iconst 0, 1) := by decide +kernel
theorem dMo_next_63 : decode bMo_next 63 = .ok (.istore_n 2, 1) := by decide +kernel
theorem dMo_next_64 : decode bMo_next 64 = .ok (.iload_n 1, 1) := by decide +kernel
theorem dMo_next_65 : decode bMo_next 65 = .ok (.iconst (-1), 1) := by decide +kernel
theorem dMo_next_66 : decode bMo_next 66 = .ok (.if_icmp .ne 11, 3) := by decide +kernel
theorem dMo_next_69 : decode bMo_next 69 = .ok (.aload_n 0, 1) := by decide +kernel
theorem dMo_next_70 : decode bMo_next 70 = .ok (.iconst 1, 1) := by decide +kernel
theorem dMo_next_71 : decode bMo_next 71 = .ok (.putfield 94, 3) := by decide +kernel
theorem dMo_next_74 : decode bMo_next 74 = .ok (.goto 207, 3) := by decide +kernel
theorem dMo_next_77 : decode bMo_next 77 = .ok (.iload_n 1, 1) := by decide +kernel
theorem dMo_next_78 : decode bMo_next 78 = .ok (.invokestatic 110, 3) := by decide +kernel
theorem dMo_next_81 : decode bMo_next 81 = .ok (.ifCond .eq 85, 3) := by decide +kernel
theorem dMo_next_84 : decode bMo_next 84 = .ok (.aload_n 0, 1) := by decide +kernel
theorem dMo_next_85 : decode bMo_next 85 = .ok (.lconst 0, 1) := by decide +kernel
theorem dMo_next_86 : decode bMo_next 86 = .ok (.putfield 114, 3) := by decide +kernel
theorem dMo_next_89 : decode bMo_next 89 = .ok (.aload_n 0, 1) := by decide +kernel
theorem dMo_next_90 : decode bMo_next 90 = .ok (.aload_n 0, 1) := by decide +kernel
theorem dMo_next_91 : decode bMo_next 91 = .ok (.getfield 97, 3) := by decide +kernel
theorem dMo_next_94 : decode bMo_next 94 = .ok (.invokevirtual 100, 3) := by decide +kernel
theorem dMo_next_97 : decode bMo_next 97 = .ok (.invokestatic 110, 3) := by decide +kernel
theorem dMo_next_100 : decode bMo_next 100 = .ok (.ifCond .eq 52, 3) := by decide +kernel
theorem dMo_next_103 : decode bMo_next 103 = .ok (.iload_n 2, 1) := by decide +kernel
theorem dMo_next_104 : decode bMo_next 104 = .ok (.bipush 8, 2) := by decide +kernel
theorem dMo_next_106 : decode bMo_next 106 = .ok (.if_icmp .ge 30, 3) := by decide +kernel
theorem dMo_next_109 : decode bMo_next 109 = .ok (.aload_n 0, 1) := by decide +kernel
theorem dMo_next_110 : decode bMo_next 110 = .ok (.ldc2_w 88, 3) := by decide +kernel
theorem dMo_next_113 : decode bMo_next 113 = .ok (.aload_n 0, 1) := by decide +kernel
theorem dMo_next_114 : decode bMo_next 114 = .ok (.getfield 114, 3) := by decide +kernel
theorem dMo_next_117 : decode bMo_next 117 = .ok (.lmul, 1) := by decide +kernel
theorem dMo_next_118 : decode bMo_next 118 = .ok (.aload_n 0, 1) := by decide +kernel
theorem dMo_next_119 : decode bMo_next 119 = .ok (.aload_n 0, 1) := by decide +kernel
theorem dMo_next_120 : decode bMo_next 120 = .ok (.getfield 97, 3) := by decide +kernel
theorem dMo_next_123 : decode bMo_next 123 = .ok (.invokevirtual 100, 3) := by decide +kernel
theorem dMo_next_126 : decode bMo_next 126 = .ok (.bipush 97, 2) := by decide +kernel
theorem dMo_next_128 : decode bMo_next 128 = .ok (.isub, 1) := by decide +kernel
theorem dMo_next_129 : decode bMo_next 129 = .ok (.iconst 1, 1) := by decide +kernel
theorem dMo_next_130 : decode bMo_next 130 = .ok (.iadd, 1) := by decide +kernel
theorem dMo_next_131 : decode bMo_next 131 = .ok (.i2l, 1) := by decide +kernel
theorem dMo_next_132 : decode bMo_next 132 = .ok (.ladd, 1) := by decide +kernel
theorem dMo_next_133 : decode bMo_next 133 = .ok (.putfield 114, 3) := by decide +kernel
theorem dMo_next_136 : decode bMo_next 136 = .ok (.iinc 2 1, 3) := by decide +kernel
theorem dMo_next_139 : decode bMo_next 139 = .ok (.aload_n 0, 1) := by decide +kernel
theorem dMo_next_140 : decode bMo_next 140 = .ok (.dup, 1) := by decide +kernel
theorem dMo_next_141 : decode bMo_next 141 = .ok (.getfield 97, 3) := by decide +kernel
theorem dMo_next_144 : decode bMo_next 144 = .ok (.iconst 1, 1) := by decide +kernel
theorem dMo_next_145 : decode bMo_next 145 = .ok (.iadd, 1) := by decide +kernel
theorem dMo_next_146 : decode bMo_next 146 = .ok (.putfield 97, 3) := by decide +kernel
theorem dMo_next_149 : decode bMo_next 149 = .ok (.goto (-60), 3) := by decide +kernel
theorem dMo_next_152 : decode bMo_next 152 = .ok (.iload_n 2, 1) := by decide +kernel
theorem dMo_next_153 : decode bMo_next 153 = .ok (.bipush 8, 2) := by decide +kernel
theorem dMo_next_155 : decode bMo_next 155 = .ok (.if_icmp .gt 126, 3) := by decide +kernel
theorem dMo_next_158 : decode bMo_next 158 = .ok (.aload_n 0, 1) := by decide +kernel
theorem dMo_next_159 : decode bMo_next 159 = .ok (.iconst 2, 1) := by decide +kernel
theorem dMo_next_160 : decode bMo_next 160 = .ok (.putfield 94, 3) := by decide +kernel
theorem dMo_next_163 : decode bMo_next 163 = .ok (.goto 118, 3) := by decide +kernel
theorem dMo_next_166 : decode bMo_next 166 = .ok (.iload_n 1, 1) := by decide +kernel
theorem dMo_next_167 : decode bMo_next 167 = .ok (.invokestatic 118, 3) := by decide +kernel
theorem dMo_next_170 : decode bMo_next 170 = .ok (.ifCond .eq 79, 3) := by decide +kernel
theorem dMo_next_173 : decode bMo_next 173 = .ok (.aload_n 0, 1) := by decide +kernel
theorem dMo_next_174 : decode bMo_next 174 = .ok (.iconst 0, 1) := by decide +kernel
theorem dMo_next_175 : decode bMo_next 175 = .ok (.putfield 121, 3) := by decide +kernel
theorem dMo_next_178 : decode bMo_next 178 = .ok (.aload_n 0, 1) := by decide +kernel
theorem dMo_next_179 : decode bMo_next 179 = .ok (.aload_n 0, 1) := by decide +kernel
theorem dMo_next_180 : decode bMo_next 180 = .ok (.getfield 97, 3) := by decide +kernel
theorem dMo_next_183 : decode bMo_next 183 = .ok (.invokevirtual 100, 3) := by decide +kernel
theorem dMo_next_186 : decode bMo_next 186 = .ok (.invokestatic 118, 3) := by decide +kernel
theorem dMo_next_189 : decode bMo_next 189 = .ok (.ifCond .eq 47, 3) := by decide +kernel
theorem dMo_next_192 : decode bMo_next 192 = .ok (.iload_n 2, 1) := by decide +kernel
theorem dMo_next_193 : decode bMo_next 193 = .ok (.iconst 3, 1) := by decide +kernel
theorem dMo_next_194 : decode bMo_next 194 = .ok (.if_icmp .ge 26, 3) := by decide +kernel
theorem dMo_next_197 : decode bMo_next 197 = .ok (.aload_n 0, 1) := by decide +kernel
theorem dMo_next_198 : decode bMo_next 198 = .ok (.bipush 10, 2) := by decide +kernel
theorem dMo_next_200 : decode bMo_next 200 = .ok (.aload_n 0, 1) := by decide +kernel
theorem dMo_next_201 : decode bMo_next 201 = .ok (.getfield 121, 3) := by decide +kernel
theorem dMo_next_204 : decode bMo_next 204 = .ok (.imul, 1) := by decide +kernel
theorem dMo_next_205 : decode bMo_next 205 = .ok (.aload_n 0, 1) := by decide +kernel
theorem dMo_next_206 : decode bMo_next 206 = .ok (.aload_n 0, 1) := by decide +kernel
theorem dMo_next_207 : decode bMo_next 207 = .ok (.getfield 97, 3) := by decide +kernel
theorem dMo_next_210 : decode bMo_next 210 = .ok (.invokevirtual 100, 3) := by decide +kernel
theorem dMo_next_213 : decode bMo_next 213 = .ok (.iadd, 1) := by decide +kernel
theorem dMo_next_214 : decode bMo_next 214 = .ok (.bipush 48, 2) := by decide +kernel
theorem dMo_next_216 : decode bMo_next 216 = .ok (.isub, 1) := by decide +kernel
theorem dMo_next_217 : decode bMo_next 217 = .ok (.putfield 121, 3) := by decide +kernel
theorem dMo_next_220 : decode bMo_next 220 = .ok (.iinc 2 1, 3) := by decide +kernel
theorem dMo_next_223 : decode bMo_next 223 = .ok (.aload_n 0, 1) := by decide +kernel
theorem dMo_next_224 : decode bMo_next 224 = .ok (.dup, 1) := by decide +kernel
theorem dMo_next_225 : decode bMo_next 225 = .ok (.getfield 97, 3) := by decide +kernel
theorem dMo_next_228 : decode bMo_next 228 = .ok (.iconst 1, 1) := by decide +kernel
theorem dMo_next_229 : decode bMo_next 229 = .ok (.iadd, 1) := by decide +kernel
theorem dMo_next_230 : decode bMo_next 230 = .ok (.putfield 97, 3) := by decide +kernel
theorem dMo_next_233 : decode bMo_next 233 = .ok (.goto (-55), 3) := by decide +kernel
theorem dMo_next_236 : decode bMo_next 236 = .ok (.iload_n 2, 1) := by decide +kernel
theorem dMo_next_237 : decode bMo_next 237 = .ok (.iconst 3, 1) := by decide +kernel
theorem dMo_next_238 : decode bMo_next 238 = .ok (.if_icmp .gt 43, 3) := by decide +kernel
theorem dMo_next_241 : decode bMo_next 241 = .ok (.aload_n 0, 1) := by decide +kernel
theorem dMo_next_242 : decode bMo_next 242 = .ok (.iconst 3, 1) := by decide +kernel
theorem dMo_next_243 : decode bMo_next 243 = .ok (.putfield 94, 3) := by decide +kernel
theorem dMo_next_246 : decode bMo_next 246 = .ok (.goto 35, 3) := by decide +kernel
theorem dMo_next_249 : decode bMo_next 249 = .ok (.iload_n 1, 1) := by decide +kernel
theorem dMo_next_250 : decode bMo_next 250 = .ok (.bipush 59, 2) := by decide +kernel
theorem dMo_next_252 : decode bMo_next 252 = .ok (.if_icmp .eq 9, 3) := by decide +kernel
theorem dMo_next_255 : decode bMo_next 255 = .ok (.iload_n 1, 1) := by decide +kernel
theorem dMo_next_256 : decode bMo_next 256 = .ok (.bipush 44, 2) := by decide +kernel
theorem dMo_next_258 : decode bMo_next 258 = .ok (.if_icmp .ne 23, 3) := by decide +kernel
theorem dMo_next_261 : decode bMo_next 261 = .ok (.aload_n 0, 1) := by decide +kernel
theorem dMo_next_262 : decode bMo_next 262 = .ok (.iconst 4, 1) := by decide +kernel
theorem dMo_next_263 : decode bMo_next 263 = .ok (.putfield 94, 3) := by decide +kernel
theorem dMo_next_266 : decode bMo_next 266 = .ok (.aload_n 0, 1) := by decide +kernel
theorem dMo_next_267 : decode bMo_next 267 = .ok (.iload_n 1, 1) := by decide +kernel
theorem dMo_next_268 : decode bMo_next 268 = .ok (.putfield 107, 3) := by decide +kernel
theorem dMo_next_271 : decode bMo_next 271 = .ok (.aload_n 0, 1) := by decide +kernel
theorem dMo_next_272 : decode bMo_next 272 = .ok (.dup, 1) := by decide +kernel
theorem dMo_next_273 : decode bMo_next 273 = .ok (.getfield 97, 3) := by decide +kernel
theorem dMo_next_276 : decode bMo_next 276 = .ok (.iconst 1, 1) := by decide +kernel
theorem dMo_next_277 : decode bMo_next 277 = .ok (.iadd, 1) := by decide +kernel
theorem dMo_next_278 : decode bMo_next 278 = .ok (.putfield 97, 3) := by decide +kernel
theorem dMo_next_281 : decode bMo_next 281 = .ok (.return_, 1) := by decide +kernel
theorem dMo_wrong_0 : decode bMo_wrong 0 = .ok (.aload_n 0, 1) := by decide +kernel
theorem dMo_wrong_1 : decode bMo_wrong 1 = .ok (.iload_n 1, 1) := by decide +kernel
theorem dMo_wrong_2 : decode bMo_wrong 2 = .ok (.aload_n 0, 1) := by decide +kernel
theorem dMo_wrong_3 : decode bMo_wrong 3 = .ok (.getfield 104, 3) := by decide +kernel
theorem dMo_wrong_6 : decode bMo_wrong 6 = .ok (.invokevirtual 124, 3) := by decide +kernel
theorem dMo_wrong_9 : decode bMo_wrong 9 = .ok (.return_, 1) := by decide +kernel
theorem dMo_wrongHere_0 : decode bMo_wrongHere 0 = .ok (.aload_n 0, 1) := by decide +kernel
theorem dMo_wrongHere_1 : decode bMo_wrongHere 1 = .ok (.getfield 94, 3) := by decide +kernel
theorem dMo_wrongHere_4 : decode bMo_wrongHere 4 = .ok (.iconst 5, 1) := by decide +kernel
theorem dMo_wrongHere_5 : decode bMo_wrongHere 5 = .ok (.if_icmp .ne 4, 3) := by decide +kernel
theorem dMo_wrongHere_8 : decode bMo_wrongHere 8 = .ok (.return_, 1) := by decide +kernel
theorem dMo_wrongHere_9 : decode bMo_wrongHere 9 = .ok (.aload_n 0, 1) := by decide +kernel
theorem dMo_wrongHere_10 : decode bMo_wrongHere 10 = .ok (.iload_n 1, 1) := by decide +kernel
theorem dMo_wrongHere_11 : decode bMo_wrongHere 11 = .ok (.putfield 128, 3) := by decide +kernel
theorem dMo_wrongHere_14 : decode bMo_wrongHere 14 = .ok (.aload_n 0, 1) := by decide +kernel
theorem dMo_wrongHere_15 : decode bMo_wrongHere 15 = .ok (.iload_n 2, 1) := by decide +kernel
theorem dMo_wrongHere_16 : decode bMo_wrongHere 16 = .ok (.putfield 131, 3) := by decide +kernel
theorem dMo_wrongHere_19 : decode bMo_wrongHere 19 = .ok (.aload_n 0, 1) := by decide +kernel
theorem dMo_wrongHere_20 : decode bMo_wrongHere 20 = .ok (.iconst 5, 1) := by decide +kernel
theorem dMo_wrongHere_21 : decode bMo_wrongHere 21 = .ok (.putfield 94, 3) := by decide +kernel
theorem dMo_wrongHere_24 : decode bMo_wrongHere 24 = .ok (.return_, 1) := by decide +kernel
theorem dMo_isWord_0 : decode bMo_isWord 0 = .ok (.aload_n 0, 1) := by decide +kernel
theorem dMo_isWord_1 : decode bMo_isWord 1 = .ok (.getfield 94, 3) := by decide +kernel
theorem dMo_isWord_4 : decode bMo_isWord 4 = .ok (.iconst 2, 1) := by decide +kernel
theorem dMo_isWord_5 : decode bMo_isWord 5 = .ok (.if_icmp .ne 19, 3) := by decide +kernel
theorem dMo_isWord_8 : decode bMo_isWord 8 = .ok (.aload_n 0, 1) := by decide +kernel
theorem dMo_isWord_9 : decode bMo_isWord 9 = .ok (.getfield 114, 3) := by decide +kernel
theorem dMo_isWord_12 : decode bMo_isWord 12 = .ok (.aload_n 1, 1) := by decide +kernel
theorem dMo_isWord_13 : decode bMo_isWord 13 = .ok (.invokestatic 134, 3) := by decide +kernel
theorem dMo_isWord_16 : decode bMo_isWord 16 = .ok (.lcmp, 1) := by decide +kernel
theorem dMo_isWord_17 : decode bMo_isWord 17 = .ok (.ifCond .ne 7, 3) := by decide +kernel
theorem dMo_isWord_20 : decode bMo_isWord 20 = .ok (.iconst 1, 1) := by decide +kernel
theorem dMo_isWord_21 : decode bMo_isWord 21 = .ok (.goto 4, 3) := by decide +kernel
theorem dMo_isWord_24 : decode bMo_isWord 24 = .ok (.iconst 0, 1) := by decide +kernel
theorem dMo_isWord_25 : decode bMo_isWord 25 = .ok (.ireturn, 1) := by decide +kernel
theorem dMo_is_0 : decode bMo_is 0 = .ok (.aload_n 0, 1) := by decide +kernel
theorem dMo_is_1 : decode bMo_is 1 = .ok (.getfield 94, 3) := by decide +kernel
theorem dMo_is_4 : decode bMo_is 4 = .ok (.iconst 4, 1) := by decide +kernel
theorem dMo_is_5 : decode bMo_is 5 = .ok (.if_icmp .ne 15, 3) := by decide +kernel
theorem dMo_is_8 : decode bMo_is 8 = .ok (.aload_n 0, 1) := by decide +kernel
theorem dMo_is_9 : decode bMo_is 9 = .ok (.getfield 107, 3) := by decide +kernel
theorem dMo_is_12 : decode bMo_is 12 = .ok (.iload_n 1, 1) := by decide +kernel
theorem dMo_is_13 : decode bMo_is 13 = .ok (.if_icmp .ne 7, 3) := by decide +kernel
theorem dMo_is_16 : decode bMo_is 16 = .ok (.iconst 1, 1) := by decide +kernel
theorem dMo_is_17 : decode bMo_is 17 = .ok (.goto 4, 3) := by decide +kernel
theorem dMo_is_20 : decode bMo_is 20 = .ok (.iconst 0, 1) := by decide +kernel
theorem dMo_is_21 : decode bMo_is 21 = .ok (.ireturn, 1) := by decide +kernel
theorem dMo_needWord_0 : decode bMo_needWord 0 = .ok (.aload_n 0, 1) := by decide +kernel
theorem dMo_needWord_1 : decode bMo_needWord 1 = .ok (.aload_n 1, 1) := by decide +kernel
theorem dMo_needWord_2 : decode bMo_needWord 2 = .ok (.invokevirtual 138, 3) := by decide +kernel
theorem dMo_needWord_5 : decode bMo_needWord 5 = .ok (.ifCond .ne 8, 3) := by decide +kernel
theorem dMo_needWord_8 : decode bMo_needWord 8 = .ok (.aload_n 0, 1) := by decide +kernel
theorem dMo_needWord_9 : decode bMo_needWord 9 = .ok (.iconst 1, 1) := by decide +kernel
theorem dMo_needWord_10 : decode bMo_needWord 10 = .ok (.invokevirtual 142, 3) := by decide +kernel
theorem dMo_needWord_13 : decode bMo_needWord 13 = .ok (.aload_n 0, 1) := by decide +kernel
theorem dMo_needWord_14 : decode bMo_needWord 14 = .ok (.invokevirtual 146, 3) := by decide +kernel
theorem dMo_needWord_17 : decode bMo_needWord 17 = .ok (.return_, 1) := by decide +kernel
theorem dMo_readWhole_0 : decode bMo_readWhole 0 = .ok (.aload_n 0, 1) := by decide +kernel
theorem dMo_readWhole_1 : decode bMo_readWhole 1 = .ok (.getfield 94, 3) := by decide +kernel
theorem dMo_readWhole_4 : decode bMo_readWhole 4 = .ok (.iconst 3, 1) := by decide +kernel
theorem dMo_readWhole_5 : decode bMo_readWhole 5 = .ok (.if_icmp .eq 11, 3) := by decide +kernel
theorem dMo_readWhole_8 : decode bMo_readWhole 8 = .ok (.aload_n 0, 1) := by decide +kernel
theorem dMo_readWhole_9 : decode bMo_readWhole 9 = .ok (.iconst 1, 1) := by decide +kernel
theorem dMo_readWhole_10 : decode bMo_readWhole 10 = .ok (.invokevirtual 142, 3) := by decide +kernel
theorem dMo_readWhole_13 : decode bMo_readWhole 13 = .ok (.goto 20, 3) := by decide +kernel
theorem dMo_readWhole_16 : decode bMo_readWhole 16 = .ok (.aload_n 0, 1) := by decide +kernel
theorem dMo_readWhole_17 : decode bMo_readWhole 17 = .ok (.getfield 121, 3) := by decide +kernel
theorem dMo_readWhole_20 : decode bMo_readWhole 20 = .ok (.iload_n 1, 1) := by decide +kernel
theorem dMo_readWhole_21 : decode bMo_readWhole 21 = .ok (.iload_n 2, 1) := by decide +kernel
theorem dMo_readWhole_22 : decode bMo_readWhole 22 = .ok (.invokestatic 149, 3) := by decide +kernel
theorem dMo_readWhole_25 : decode bMo_readWhole 25 = .ok (.ifCond .ne 8, 3) := by decide +kernel
theorem dMo_readWhole_28 : decode bMo_readWhole 28 = .ok (.aload_n 0, 1) := by decide +kernel
theorem dMo_readWhole_29 : decode bMo_readWhole 29 = .ok (.iconst 4, 1) := by decide +kernel
theorem dMo_readWhole_30 : decode bMo_readWhole 30 = .ok (.invokevirtual 142, 3) := by decide +kernel
theorem dMo_readWhole_33 : decode bMo_readWhole 33 = .ok (.aload_n 0, 1) := by decide +kernel
theorem dMo_readWhole_34 : decode bMo_readWhole 34 = .ok (.getfield 121, 3) := by decide +kernel
theorem dMo_readWhole_37 : decode bMo_readWhole 37 = .ok (.istore_n 3, 1) := by decide +kernel
theorem dMo_readWhole_38 : decode bMo_readWhole 38 = .ok (.aload_n 0, 1) := by decide +kernel
theorem dMo_readWhole_39 : decode bMo_readWhole 39 = .ok (.invokevirtual 146, 3) := by decide +kernel
theorem dMo_readWhole_42 : decode bMo_readWhole 42 = .ok (.iload_n 3, 1) := by decide +kernel
theorem dMo_readWhole_43 : decode bMo_readWhole 43 = .ok (.ireturn, 1) := by decide +kernel
theorem dMo_isName_0 : decode bMo_isName 0 = .ok (.aload_n 0, 1) := by decide +kernel
theorem dMo_isName_1 : decode bMo_isName 1 = .ok (.getfield 94, 3) := by decide +kernel
theorem dMo_isName_4 : decode bMo_isName 4 = .ok (.iconst 2, 1) := by decide +kernel
theorem dMo_isName_5 : decode bMo_isName 5 = .ok (.if_icmp .ne 70, 3) := by decide +kernel
theorem dMo_isName_8 : decode bMo_isName 8 = .ok (.aload_n 0, 1) := by decide +kernel
theorem dMo_isName_9 : decode bMo_isName 9 = .ok (.ldc 153, 2) := by decide +kernel
theorem dMo_isName_11 : decode bMo_isName 11 = .ok (.invokevirtual 138, 3) := by decide +kernel
theorem dMo_isName_14 : decode bMo_isName 14 = .ok (.ifCond .ne 61, 3) := by decide +kernel
theorem dMo_isName_17 : decode bMo_isName 17 = .ok (.aload_n 0, 1) := by decide +kernel
theorem dMo_isName_18 : decode bMo_isName 18 = .ok (.ldc 155, 2) := by decide +kernel
theorem dMo_isName_20 : decode bMo_isName 20 = .ok (.invokevirtual 138, 3) := by decide +kernel
theorem dMo_isName_23 : decode bMo_isName 23 = .ok (.ifCond .ne 52, 3) := by decide +kernel
theorem dMo_isName_26 : decode bMo_isName 26 = .ok (.aload_n 0, 1) := by decide +kernel
theorem dMo_isName_27 : decode bMo_isName 27 = .ok (.ldc 157, 2) := by decide +kernel
theorem dMo_isName_29 : decode bMo_isName 29 = .ok (.invokevirtual 138, 3) := by decide +kernel
theorem dMo_isName_32 : decode bMo_isName 32 = .ok (.ifCond .ne 43, 3) := by decide +kernel
theorem dMo_isName_35 : decode bMo_isName 35 = .ok (.aload_n 0, 1) := by decide +kernel
theorem dMo_isName_36 : decode bMo_isName 36 = .ok (.ldc 159, 2) := by decide +kernel
theorem dMo_isName_38 : decode bMo_isName 38 = .ok (.invokevirtual 138, 3) := by decide +kernel
theorem dMo_isName_41 : decode bMo_isName 41 = .ok (.ifCond .ne 34, 3) := by decide +kernel
theorem dMo_isName_44 : decode bMo_isName 44 = .ok (.aload_n 0, 1) := by decide +kernel
theorem dMo_isName_45 : decode bMo_isName 45 = .ok (.ldc 161, 2) := by decide +kernel
theorem dMo_isName_47 : decode bMo_isName 47 = .ok (.invokevirtual 138, 3) := by decide +kernel
theorem dMo_isName_50 : decode bMo_isName 50 = .ok (.ifCond .ne 25, 3) := by decide +kernel
theorem dMo_isName_53 : decode bMo_isName 53 = .ok (.aload_n 0, 1) := by decide +kernel
theorem dMo_isName_54 : decode bMo_isName 54 = .ok (.ldc 163, 2) := by decide +kernel
theorem dMo_isName_56 : decode bMo_isName 56 = .ok (.invokevirtual 138, 3) := by decide +kernel
theorem dMo_isName_59 : decode bMo_isName 59 = .ok (.ifCond .ne 16, 3) := by decide +kernel
theorem dMo_isName_62 : decode bMo_isName 62 = .ok (.aload_n 0, 1) := by decide +kernel
theorem dMo_isName_63 : decode bMo_isName 63 = .ok (.ldc 164, 2) := by decide +kernel
theorem dMo_isName_65 : decode bMo_isName 65 = .ok (.invokevirtual 138, 3) := by decide +kernel
theorem dMo_isName_68 : decode bMo_isName 68 = .ok (.ifCond .ne 7, 3) := by decide +kernel
theorem dMo_isName_71 : decode bMo_isName 71 = .ok (.iconst 1, 1) := by decide +kernel
theorem dMo_isName_72 : decode bMo_isName 72 = .ok (.goto 4, 3) := by decide +kernel
theorem dMo_isName_75 : decode bMo_isName 75 = .ok (.iconst 0, 1) := by decide +kernel
theorem dMo_isName_76 : decode bMo_isName 76 = .ok (.ireturn, 1) := by decide +kernel
theorem dMo_readMill_0 : decode bMo_readMill 0 = .ok (.iconst 1, 1) := by decide +kernel
theorem dMo_readMill_1 : decode bMo_readMill 1 = .ok (.istore_n 1, 1) := by decide +kernel
theorem dMo_readMill_2 : decode bMo_readMill 2 = .ok (.iload_n 1, 1) := by decide +kernel
theorem dMo_readMill_3 : decode bMo_readMill 3 = .ok (.ifCond .eq 25, 3) := by decide +kernel
theorem dMo_readMill_6 : decode bMo_readMill 6 = .ok (.aload_n 0, 1) := by decide +kernel
theorem dMo_readMill_7 : decode bMo_readMill 7 = .ok (.invokevirtual 166, 3) := by decide +kernel
theorem dMo_readMill_10 : decode bMo_readMill 10 = .ok (.aload_n 0, 1) := by decide +kernel
theorem dMo_readMill_11 : decode bMo_readMill 11 = .ok (.bipush 59, 2) := by decide +kernel
theorem dMo_readMill_13 : decode bMo_readMill 13 = .ok (.invokevirtual 169, 3) := by decide +kernel
theorem dMo_readMill_16 : decode bMo_readMill 16 = .ok (.istore_n 1, 1) := by decide +kernel
theorem dMo_readMill_17 : decode bMo_readMill 17 = .ok (.iload_n 1, 1) := by decide +kernel
theorem dMo_readMill_18 : decode bMo_readMill 18 = .ok (.ifCond .eq (-16), 3) := by decide +kernel
theorem dMo_readMill_21 : decode bMo_readMill 21 = .ok (.aload_n 0, 1) := by decide +kernel
theorem dMo_readMill_22 : decode bMo_readMill 22 = .ok (.invokevirtual 146, 3) := by decide +kernel
theorem dMo_readMill_25 : decode bMo_readMill 25 = .ok (.goto (-23), 3) := by decide +kernel
theorem dMo_readMill_28 : decode bMo_readMill 28 = .ok (.aload_n 0, 1) := by decide +kernel
theorem dMo_readMill_29 : decode bMo_readMill 29 = .ok (.getfield 94, 3) := by decide +kernel
theorem dMo_readMill_32 : decode bMo_readMill 32 = .ok (.iconst 1, 1) := by decide +kernel
theorem dMo_readMill_33 : decode bMo_readMill 33 = .ok (.if_icmp .eq 8, 3) := by decide +kernel
theorem dMo_readMill_36 : decode bMo_readMill 36 = .ok (.aload_n 0, 1) := by decide +kernel
theorem dMo_readMill_37 : decode bMo_readMill 37 = .ok (.iconst 1, 1) := by decide +kernel
theorem dMo_readMill_38 : decode bMo_readMill 38 = .ok (.invokevirtual 142, 3) := by decide +kernel
theorem dMo_readMill_41 : decode bMo_readMill 41 = .ok (.aload_n 0, 1) := by decide +kernel
theorem dMo_readMill_42 : decode bMo_readMill 42 = .ok (.getfield 172, 3) := by decide +kernel
theorem dMo_readMill_45 : decode bMo_readMill 45 = .ok (.getfield 176, 3) := by decide +kernel
theorem dMo_readMill_48 : decode bMo_readMill 48 = .ok (.iconst (-1), 1) := by decide +kernel
theorem dMo_readMill_49 : decode bMo_readMill 49 = .ok (.if_icmp .eq 67, 3) := by decide +kernel
theorem dMo_readMill_52 : decode bMo_readMill 52 = .ok (.aload_n 0, 1) := by decide +kernel
theorem dMo_readMill_53 : decode bMo_readMill 53 = .ok (.getfield 172, 3) := by decide +kernel
theorem dMo_readMill_56 : decode bMo_readMill 56 = .ok (.getfield 181, 3) := by decide +kernel
theorem dMo_readMill_59 : decode bMo_readMill 59 = .ok (.iconst (-1), 1) := by decide +kernel
theorem dMo_readMill_60 : decode bMo_readMill 60 = .ok (.if_icmp .eq 56, 3) := by decide +kernel
theorem dMo_readMill_63 : decode bMo_readMill 63 = .ok (.aload_n 0, 1) := by decide +kernel
theorem dMo_readMill_64 : decode bMo_readMill 64 = .ok (.getfield 172, 3) := by decide +kernel
theorem dMo_readMill_67 : decode bMo_readMill 67 = .ok (.getfield 183, 3) := by decide +kernel
theorem dMo_readMill_70 : decode bMo_readMill 70 = .ok (.iconst (-1), 1) := by decide +kernel
theorem dMo_readMill_71 : decode bMo_readMill 71 = .ok (.if_icmp .eq 45, 3) := by decide +kernel
theorem dMo_readMill_74 : decode bMo_readMill 74 = .ok (.aload_n 0, 1) := by decide +kernel
theorem dMo_readMill_75 : decode bMo_readMill 75 = .ok (.getfield 172, 3) := by decide +kernel
theorem dMo_readMill_78 : decode bMo_readMill 78 = .ok (.getfield 186, 3) := by decide +kernel
theorem dMo_readMill_81 : decode bMo_readMill 81 = .ok (.iconst (-1), 1) := by decide +kernel
theorem dMo_readMill_82 : decode bMo_readMill 82 = .ok (.if_icmp .eq 34, 3) := by decide +kernel
theorem dMo_readMill_85 : decode bMo_readMill 85 = .ok (.aload_n 0, 1) := by decide +kernel
theorem dMo_readMill_86 : decode bMo_readMill 86 = .ok (.getfield 172, 3) := by decide +kernel
theorem dMo_readMill_89 : decode bMo_readMill 89 = .ok (.getfield 188, 3) := by decide +kernel
theorem dMo_readMill_92 : decode bMo_readMill 92 = .ok (.ifCond .eq 24, 3) := by decide +kernel
theorem dMo_readMill_95 : decode bMo_readMill 95 = .ok (.aload_n 0, 1) := by decide +kernel
theorem dMo_readMill_96 : decode bMo_readMill 96 = .ok (.getfield 172, 3) := by decide +kernel
theorem dMo_readMill_99 : decode bMo_readMill 99 = .ok (.getfield 191, 3) := by decide +kernel
theorem dMo_readMill_102 : decode bMo_readMill 102 = .ok (.iconst 2, 1) := by decide +kernel
theorem dMo_readMill_103 : decode bMo_readMill 103 = .ok (.if_icmp .lt 13, 3) := by decide +kernel
theorem dMo_readMill_106 : decode bMo_readMill 106 = .ok (.aload_n 0, 1) := by decide +kernel
theorem dMo_readMill_107 : decode bMo_readMill 107 = .ok (.getfield 172, 3) := by decide +kernel
theorem dMo_readMill_110 : decode bMo_readMill 110 = .ok (.getfield 194, 3) := by decide +kernel
theorem dMo_readMill_113 : decode bMo_readMill 113 = .ok (.ifCond .ne 7, 3) := by decide +kernel
theorem dMo_readMill_116 : decode bMo_readMill 116 = .ok (.iconst 1, 1) := by decide +kernel
theorem dMo_readMill_117 : decode bMo_readMill 117 = .ok (.goto 4, 3) := by decide +kernel
theorem dMo_readMill_120 : decode bMo_readMill 120 = .ok (.iconst 0, 1) := by decide +kernel
theorem dMo_readMill_121 : decode bMo_readMill 121 = .ok (.istore_n 2, 1) := by decide +kernel
theorem dMo_readMill_122 : decode bMo_readMill 122 = .ok (.iload_n 2, 1) := by decide +kernel
theorem dMo_readMill_123 : decode bMo_readMill 123 = .ok (.ifCond .eq 9, 3) := by decide +kernel
theorem dMo_readMill_126 : decode bMo_readMill 126 = .ok (.aload_n 0, 1) := by decide +kernel
theorem dMo_readMill_127 : decode bMo_readMill 127 = .ok (.bipush 6, 2) := by decide +kernel
theorem dMo_readMill_129 : decode bMo_readMill 129 = .ok (.invokevirtual 142, 3) := by decide +kernel
theorem dMo_readMill_132 : decode bMo_readMill 132 = .ok (.return_, 1) := by decide +kernel
theorem dMo_readLine_0 : decode bMo_readLine 0 = .ok (.aload_n 0, 1) := by decide +kernel
theorem dMo_readLine_1 : decode bMo_readLine 1 = .ok (.ldc 153, 2) := by decide +kernel
theorem dMo_readLine_3 : decode bMo_readLine 3 = .ok (.invokevirtual 138, 3) := by decide +kernel
theorem dMo_readLine_6 : decode bMo_readLine 6 = .ok (.ifCond .eq 10, 3) := by decide +kernel
theorem dMo_readLine_9 : decode bMo_readLine 9 = .ok (.aload_n 0, 1) := by decide +kernel
theorem dMo_readLine_10 : decode bMo_readLine 10 = .ok (.invokevirtual 197, 3) := by decide +kernel
theorem dMo_readLine_13 : decode bMo_readLine 13 = .ok (.goto 104, 3) := by decide +kernel
theorem dMo_readLine_16 : decode bMo_readLine 16 = .ok (.aload_n 0, 1) := by decide +kernel
theorem dMo_readLine_17 : decode bMo_readLine 17 = .ok (.ldc 155, 2) := by decide +kernel
theorem dMo_readLine_19 : decode bMo_readLine 19 = .ok (.invokevirtual 138, 3) := by decide +kernel
theorem dMo_readLine_22 : decode bMo_readLine 22 = .ok (.ifCond .eq 10, 3) := by decide +kernel
theorem dMo_readLine_25 : decode bMo_readLine 25 = .ok (.aload_n 0, 1) := by decide +kernel
theorem dMo_readLine_26 : decode bMo_readLine 26 = .ok (.invokevirtual 200, 3) := by decide +kernel
theorem dMo_readLine_29 : decode bMo_readLine 29 = .ok (.goto 88, 3) := by decide +kernel
theorem dMo_readLine_32 : decode bMo_readLine 32 = .ok (.aload_n 0, 1) := by decide +kernel
theorem dMo_readLine_33 : decode bMo_readLine 33 = .ok (.ldc 157, 2) := by decide +kernel
theorem dMo_readLine_35 : decode bMo_readLine 35 = .ok (.invokevirtual 138, 3) := by decide +kernel
theorem dMo_readLine_38 : decode bMo_readLine 38 = .ok (.ifCond .eq 10, 3) := by decide +kernel
theorem dMo_readLine_41 : decode bMo_readLine 41 = .ok (.aload_n 0, 1) := by decide +kernel
theorem dMo_readLine_42 : decode bMo_readLine 42 = .ok (.invokevirtual 203, 3) := by decide +kernel
theorem dMo_readLine_45 : decode bMo_readLine 45 = .ok (.goto 72, 3) := by decide +kernel
theorem dMo_readLine_48 : decode bMo_readLine 48 = .ok (.aload_n 0, 1) := by decide +kernel
theorem dMo_readLine_49 : decode bMo_readLine 49 = .ok (.ldc 159, 2) := by decide +kernel
theorem dMo_readLine_51 : decode bMo_readLine 51 = .ok (.invokevirtual 138, 3) := by decide +kernel
theorem dMo_readLine_54 : decode bMo_readLine 54 = .ok (.ifCond .eq 10, 3) := by decide +kernel
theorem dMo_readLine_57 : decode bMo_readLine 57 = .ok (.aload_n 0, 1) := by decide +kernel
theorem dMo_readLine_58 : decode bMo_readLine 58 = .ok (.invokevirtual 206, 3) := by decide +kernel
theorem dMo_readLine_61 : decode bMo_readLine 61 = .ok (.goto 56, 3) := by decide +kernel
theorem dMo_readLine_64 : decode bMo_readLine 64 = .ok (.aload_n 0, 1) := by decide +kernel
theorem dMo_readLine_65 : decode bMo_readLine 65 = .ok (.ldc 161, 2) := by decide +kernel
theorem dMo_readLine_67 : decode bMo_readLine 67 = .ok (.invokevirtual 138, 3) := by decide +kernel
theorem dMo_readLine_70 : decode bMo_readLine 70 = .ok (.ifCond .eq 10, 3) := by decide +kernel
theorem dMo_readLine_73 : decode bMo_readLine 73 = .ok (.aload_n 0, 1) := by decide +kernel
theorem dMo_readLine_74 : decode bMo_readLine 74 = .ok (.invokevirtual 209, 3) := by decide +kernel
theorem dMo_readLine_77 : decode bMo_readLine 77 = .ok (.goto 40, 3) := by decide +kernel
theorem dMo_readLine_80 : decode bMo_readLine 80 = .ok (.aload_n 0, 1) := by decide +kernel
theorem dMo_readLine_81 : decode bMo_readLine 81 = .ok (.ldc 163, 2) := by decide +kernel
theorem dMo_readLine_83 : decode bMo_readLine 83 = .ok (.invokevirtual 138, 3) := by decide +kernel
theorem dMo_readLine_86 : decode bMo_readLine 86 = .ok (.ifCond .eq 10, 3) := by decide +kernel
theorem dMo_readLine_89 : decode bMo_readLine 89 = .ok (.aload_n 0, 1) := by decide +kernel
theorem dMo_readLine_90 : decode bMo_readLine 90 = .ok (.invokevirtual 212, 3) := by decide +kernel
theorem dMo_readLine_93 : decode bMo_readLine 93 = .ok (.goto 24, 3) := by decide +kernel
theorem dMo_readLine_96 : decode bMo_readLine 96 = .ok (.aload_n 0, 1) := by decide +kernel
theorem dMo_readLine_97 : decode bMo_readLine 97 = .ok (.ldc 164, 2) := by decide +kernel
theorem dMo_readLine_99 : decode bMo_readLine 99 = .ok (.invokevirtual 138, 3) := by decide +kernel
theorem dMo_readLine_102 : decode bMo_readLine 102 = .ok (.ifCond .eq 10, 3) := by decide +kernel
theorem dMo_readLine_105 : decode bMo_readLine 105 = .ok (.aload_n 0, 1) := by decide +kernel
theorem dMo_readLine_106 : decode bMo_readLine 106 = .ok (.invokevirtual 215, 3) := by decide +kernel
theorem dMo_readLine_109 : decode bMo_readLine 109 = .ok (.goto 8, 3) := by decide +kernel
theorem dMo_readLine_112 : decode bMo_readLine 112 = .ok (.aload_n 0, 1) := by decide +kernel
theorem dMo_readLine_113 : decode bMo_readLine 113 = .ok (.iconst 1, 1) := by decide +kernel
theorem dMo_readLine_114 : decode bMo_readLine 114 = .ok (.invokevirtual 142, 3) := by decide +kernel
theorem dMo_readLine_117 : decode bMo_readLine 117 = .ok (.return_, 1) := by decide +kernel
theorem dMo_once_0 : decode bMo_once 0 = .ok (.iload_n 1, 1) := by decide +kernel
theorem dMo_once_1 : decode bMo_once 1 = .ok (.ifCond .eq 8, 3) := by decide +kernel
theorem dMo_once_4 : decode bMo_once 4 = .ok (.aload_n 0, 1) := by decide +kernel
theorem dMo_once_5 : decode bMo_once 5 = .ok (.iconst 3, 1) := by decide +kernel
theorem dMo_once_6 : decode bMo_once 6 = .ok (.invokevirtual 142, 3) := by decide +kernel
theorem dMo_once_9 : decode bMo_once 9 = .ok (.aload_n 0, 1) := by decide +kernel
theorem dMo_once_10 : decode bMo_once 10 = .ok (.invokevirtual 146, 3) := by decide +kernel
theorem dMo_once_13 : decode bMo_once 13 = .ok (.return_, 1) := by decide +kernel
theorem dMo_readDrum_0 : decode bMo_readDrum 0 = .ok (.aload_n 0, 1) := by decide +kernel
theorem dMo_readDrum_1 : decode bMo_readDrum 1 = .ok (.aload_n 0, 1) := by decide +kernel
theorem dMo_readDrum_2 : decode bMo_readDrum 2 = .ok (.getfield 172, 3) := by decide +kernel
theorem dMo_readDrum_5 : decode bMo_readDrum 5 = .ok (.getfield 176, 3) := by decide +kernel
theorem dMo_readDrum_8 : decode bMo_readDrum 8 = .ok (.iconst (-1), 1) := by decide +kernel
theorem dMo_readDrum_9 : decode bMo_readDrum 9 = .ok (.if_icmp .eq 7, 3) := by decide +kernel
theorem dMo_readDrum_12 : decode bMo_readDrum 12 = .ok (.iconst 1, 1) := by decide +kernel
theorem dMo_readDrum_13 : decode bMo_readDrum 13 = .ok (.goto 4, 3) := by decide +kernel
theorem dMo_readDrum_16 : decode bMo_readDrum 16 = .ok (.iconst 0, 1) := by decide +kernel
theorem dMo_readDrum_17 : decode bMo_readDrum 17 = .ok (.invokevirtual 218, 3) := by decide +kernel
theorem dMo_readDrum_20 : decode bMo_readDrum 20 = .ok (.aload_n 0, 1) := by decide +kernel
theorem dMo_readDrum_21 : decode bMo_readDrum 21 = .ok (.ldc 222, 2) := by decide +kernel
theorem dMo_readDrum_23 : decode bMo_readDrum 23 = .ok (.invokevirtual 223, 3) := by decide +kernel
theorem dMo_readDrum_26 : decode bMo_readDrum 26 = .ok (.aload_n 0, 1) := by decide +kernel
theorem dMo_readDrum_27 : decode bMo_readDrum 27 = .ok (.getfield 172, 3) := by decide +kernel
theorem dMo_readDrum_30 : decode bMo_readDrum 30 = .ok (.aload_n 0, 1) := by decide +kernel
theorem dMo_readDrum_31 : decode bMo_readDrum 31 = .ok (.bipush 20, 2) := by decide +kernel
theorem dMo_readDrum_33 : decode bMo_readDrum 33 = .ok (.sipush 999, 3) := by decide +kernel
theorem dMo_readDrum_36 : decode bMo_readDrum 36 = .ok (.invokevirtual 227, 3) := by decide +kernel
theorem dMo_readDrum_39 : decode bMo_readDrum 39 = .ok (.putfield 176, 3) := by decide +kernel
theorem dMo_readDrum_42 : decode bMo_readDrum 42 = .ok (.aload_n 0, 1) := by decide +kernel
theorem dMo_readDrum_43 : decode bMo_readDrum 43 = .ok (.ldc 231, 2) := by decide +kernel
theorem dMo_readDrum_45 : decode bMo_readDrum 45 = .ok (.invokevirtual 223, 3) := by decide +kernel
theorem dMo_readDrum_48 : decode bMo_readDrum 48 = .ok (.aload_n 0, 1) := by decide +kernel
theorem dMo_readDrum_49 : decode bMo_readDrum 49 = .ok (.getfield 172, 3) := by decide +kernel
theorem dMo_readDrum_52 : decode bMo_readDrum 52 = .ok (.aload_n 0, 1) := by decide +kernel
theorem dMo_readDrum_53 : decode bMo_readDrum 53 = .ok (.bipush 10, 2) := by decide +kernel
theorem dMo_readDrum_55 : decode bMo_readDrum 55 = .ok (.sipush 200, 3) := by decide +kernel
theorem dMo_readDrum_58 : decode bMo_readDrum 58 = .ok (.invokevirtual 227, 3) := by decide +kernel
theorem dMo_readDrum_61 : decode bMo_readDrum 61 = .ok (.putfield 233, 3) := by decide +kernel
theorem dMo_readDrum_64 : decode bMo_readDrum 64 = .ok (.return_, 1) := by decide +kernel
theorem dMo_readSieve_0 : decode bMo_readSieve 0 = .ok (.aload_n 0, 1) := by decide +kernel
theorem dMo_readSieve_1 : decode bMo_readSieve 1 = .ok (.aload_n 0, 1) := by decide +kernel
theorem dMo_readSieve_2 : decode bMo_readSieve 2 = .ok (.getfield 172, 3) := by decide +kernel
theorem dMo_readSieve_5 : decode bMo_readSieve 5 = .ok (.getfield 181, 3) := by decide +kernel
theorem dMo_readSieve_8 : decode bMo_readSieve 8 = .ok (.iconst (-1), 1) := by decide +kernel
theorem dMo_readSieve_9 : decode bMo_readSieve 9 = .ok (.if_icmp .eq 7, 3) := by decide +kernel
theorem dMo_readSieve_12 : decode bMo_readSieve 12 = .ok (.iconst 1, 1) := by decide +kernel
theorem dMo_readSieve_13 : decode bMo_readSieve 13 = .ok (.goto 4, 3) := by decide +kernel
theorem dMo_readSieve_16 : decode bMo_readSieve 16 = .ok (.iconst 0, 1) := by decide +kernel
theorem dMo_readSieve_17 : decode bMo_readSieve 17 = .ok (.invokevirtual 218, 3) := by decide +kernel
theorem dMo_readSieve_20 : decode bMo_readSieve 20 = .ok (.aload_n 0, 1) := by decide +kernel
theorem dMo_readSieve_21 : decode bMo_readSieve 21 = .ok (.invokevirtual 235, 3) := by decide +kernel
theorem dMo_readSieve_24 : decode bMo_readSieve 24 = .ok (.ifCond .ne 8, 3) := by decide +kernel
theorem dMo_readSieve_27 : decode bMo_readSieve 27 = .ok (.aload_n 0, 1) := by decide +kernel
theorem dMo_readSieve_28 : decode bMo_readSieve 28 = .ok (.iconst 1, 1) := by decide +kernel
theorem dMo_readSieve_29 : decode bMo_readSieve 29 = .ok (.invokevirtual 142, 3) := by decide +kernel
theorem dMo_readSieve_32 : decode bMo_readSieve 32 = .ok (.aload_n 0, 1) := by decide +kernel
theorem dMo_readSieve_33 : decode bMo_readSieve 33 = .ok (.getfield 172, 3) := by decide +kernel
theorem dMo_readSieve_36 : decode bMo_readSieve 36 = .ok (.aload_n 0, 1) := by decide +kernel
theorem dMo_readSieve_37 : decode bMo_readSieve 37 = .ok (.getfield 114, 3) := by decide +kernel
theorem dMo_readSieve_40 : decode bMo_readSieve 40 = .ok (.invokevirtual 239, 3) := by decide +kernel
theorem dMo_readSieve_43 : decode bMo_readSieve 43 = .ok (.istore_n 1, 1) := by decide +kernel
theorem dMo_readSieve_44 : decode bMo_readSieve 44 = .ok (.iload_n 1, 1) := by decide +kernel
theorem dMo_readSieve_45 : decode bMo_readSieve 45 = .ok (.iconst (-1), 1) := by decide +kernel
theorem dMo_readSieve_46 : decode bMo_readSieve 46 = .ok (.if_icmp .eq 16, 3) := by decide +kernel
theorem dMo_readSieve_49 : decode bMo_readSieve 49 = .ok (.aload_n 0, 1) := by decide +kernel
theorem dMo_readSieve_50 : decode bMo_readSieve 50 = .ok (.getfield 172, 3) := by decide +kernel
theorem dMo_readSieve_53 : decode bMo_readSieve 53 = .ok (.getfield 243, 3) := by decide +kernel
theorem dMo_readSieve_56 : decode bMo_readSieve 56 = .ok (.iload_n 1, 1) := by decide +kernel
theorem dMo_readSieve_57 : decode bMo_readSieve 57 = .ok (.iaload, 1) := by decide +kernel
theorem dMo_readSieve_58 : decode bMo_readSieve 58 = .ok (.iconst (-1), 1) := by decide +kernel
theorem dMo_readSieve_59 : decode bMo_readSieve 59 = .ok (.if_icmp .ne 8, 3) := by decide +kernel
theorem dMo_readSieve_62 : decode bMo_readSieve 62 = .ok (.aload_n 0, 1) := by decide +kernel
theorem dMo_readSieve_63 : decode bMo_readSieve 63 = .ok (.iconst 2, 1) := by decide +kernel
theorem dMo_readSieve_64 : decode bMo_readSieve 64 = .ok (.invokevirtual 142, 3) := by decide +kernel
theorem dMo_readSieve_67 : decode bMo_readSieve 67 = .ok (.aload_n 0, 1) := by decide +kernel
theorem dMo_readSieve_68 : decode bMo_readSieve 68 = .ok (.getfield 172, 3) := by decide +kernel
theorem dMo_readSieve_71 : decode bMo_readSieve 71 = .ok (.iload_n 1, 1) := by decide +kernel
theorem dMo_readSieve_72 : decode bMo_readSieve 72 = .ok (.iconst (-1), 1) := by decide +kernel
theorem dMo_readSieve_73 : decode bMo_readSieve 73 = .ok (.if_icmp .ne 7, 3) := by decide +kernel
theorem dMo_readSieve_76 : decode bMo_readSieve 76 = .ok (.iconst 0, 1) := by decide +kernel
theorem dMo_readSieve_77 : decode bMo_readSieve 77 = .ok (.goto 12, 3) := by decide +kernel
theorem dMo_readSieve_80 : decode bMo_readSieve 80 = .ok (.aload_n 0, 1) := by decide +kernel
theorem dMo_readSieve_81 : decode bMo_readSieve 81 = .ok (.getfield 172, 3) := by decide +kernel
theorem dMo_readSieve_84 : decode bMo_readSieve 84 = .ok (.getfield 243, 3) := by decide +kernel
theorem dMo_readSieve_87 : decode bMo_readSieve 87 = .ok (.iload_n 1, 1) := by decide +kernel
theorem dMo_readSieve_88 : decode bMo_readSieve 88 = .ok (.iaload, 1) := by decide +kernel
theorem dMo_readSieve_89 : decode bMo_readSieve 89 = .ok (.putfield 181, 3) := by decide +kernel
theorem dMo_readSieve_92 : decode bMo_readSieve 92 = .ok (.aload_n 0, 1) := by decide +kernel
theorem dMo_readSieve_93 : decode bMo_readSieve 93 = .ok (.invokevirtual 146, 3) := by decide +kernel
theorem dMo_readSieve_96 : decode bMo_readSieve 96 = .ok (.aload_n 0, 1) := by decide +kernel
theorem dMo_readSieve_97 : decode bMo_readSieve 97 = .ok (.ldc 246, 2) := by decide +kernel
theorem dMo_readSieve_99 : decode bMo_readSieve 99 = .ok (.invokevirtual 223, 3) := by decide +kernel
theorem dMo_readSieve_102 : decode bMo_readSieve 102 = .ok (.aload_n 0, 1) := by decide +kernel
theorem dMo_readSieve_103 : decode bMo_readSieve 103 = .ok (.getfield 172, 3) := by decide +kernel
theorem dMo_readSieve_106 : decode bMo_readSieve 106 = .ok (.aload_n 0, 1) := by decide +kernel
theorem dMo_readSieve_107 : decode bMo_readSieve 107 = .ok (.iconst 0, 1) := by decide +kernel
theorem dMo_readSieve_108 : decode bMo_readSieve 108 = .ok (.bipush 50, 2) := by decide +kernel
theorem dMo_readSieve_110 : decode bMo_readSieve 110 = .ok (.invokevirtual 227, 3) := by decide +kernel
theorem dMo_readSieve_113 : decode bMo_readSieve 113 = .ok (.putfield 248, 3) := by decide +kernel
theorem dMo_readSieve_116 : decode bMo_readSieve 116 = .ok (.return_, 1) := by decide +kernel
theorem dMo_readLiner_0 : decode bMo_readLiner 0 = .ok (.aload_n 0, 1) := by decide +kernel
theorem dMo_readLiner_1 : decode bMo_readLiner 1 = .ok (.aload_n 0, 1) := by decide +kernel
theorem dMo_readLiner_2 : decode bMo_readLiner 2 = .ok (.getfield 172, 3) := by decide +kernel
theorem dMo_readLiner_5 : decode bMo_readLiner 5 = .ok (.getfield 183, 3) := by decide +kernel
theorem dMo_readLiner_8 : decode bMo_readLiner 8 = .ok (.iconst (-1), 1) := by decide +kernel
theorem dMo_readLiner_9 : decode bMo_readLiner 9 = .ok (.if_icmp .eq 7, 3) := by decide +kernel
theorem dMo_readLiner_12 : decode bMo_readLiner 12 = .ok (.iconst 1, 1) := by decide +kernel
theorem dMo_readLiner_13 : decode bMo_readLiner 13 = .ok (.goto 4, 3) := by decide +kernel
theorem dMo_readLiner_16 : decode bMo_readLiner 16 = .ok (.iconst 0, 1) := by decide +kernel
theorem dMo_readLiner_17 : decode bMo_readLiner 17 = .ok (.invokevirtual 218, 3) := by decide +kernel
theorem dMo_readLiner_20 : decode bMo_readLiner 20 = .ok (.aload_n 0, 1) := by decide +kernel
theorem dMo_readLiner_21 : decode bMo_readLiner 21 = .ok (.getfield 172, 3) := by decide +kernel
theorem dMo_readLiner_24 : decode bMo_readLiner 24 = .ok (.aload_n 0, 1) := by decide +kernel
theorem dMo_readLiner_25 : decode bMo_readLiner 25 = .ok (.iconst 1, 1) := by decide +kernel
theorem dMo_readLiner_26 : decode bMo_readLiner 26 = .ok (.sipush 200, 3) := by decide +kernel
theorem dMo_readLiner_29 : decode bMo_readLiner 29 = .ok (.invokevirtual 227, 3) := by decide +kernel
theorem dMo_readLiner_32 : decode bMo_readLiner 32 = .ok (.putfield 183, 3) := by decide +kernel
theorem dMo_readLiner_35 : decode bMo_readLiner 35 = .ok (.return_, 1) := by decide +kernel
theorem dMo_readBin_0 : decode bMo_readBin 0 = .ok (.aload_n 0, 1) := by decide +kernel
theorem dMo_readBin_1 : decode bMo_readBin 1 = .ok (.aload_n 0, 1) := by decide +kernel
theorem dMo_readBin_2 : decode bMo_readBin 2 = .ok (.getfield 172, 3) := by decide +kernel
theorem dMo_readBin_5 : decode bMo_readBin 5 = .ok (.getfield 186, 3) := by decide +kernel
theorem dMo_readBin_8 : decode bMo_readBin 8 = .ok (.iconst (-1), 1) := by decide +kernel
theorem dMo_readBin_9 : decode bMo_readBin 9 = .ok (.if_icmp .eq 7, 3) := by decide +kernel
theorem dMo_readBin_12 : decode bMo_readBin 12 = .ok (.iconst 1, 1) := by decide +kernel
theorem dMo_readBin_13 : decode bMo_readBin 13 = .ok (.goto 4, 3) := by decide +kernel
theorem dMo_readBin_16 : decode bMo_readBin 16 = .ok (.iconst 0, 1) := by decide +kernel
theorem dMo_readBin_17 : decode bMo_readBin 17 = .ok (.invokevirtual 218, 3) := by decide +kernel
theorem dMo_readBin_20 : decode bMo_readBin 20 = .ok (.aload_n 0, 1) := by decide +kernel
theorem dMo_readBin_21 : decode bMo_readBin 21 = .ok (.getfield 172, 3) := by decide +kernel
theorem dMo_readBin_24 : decode bMo_readBin 24 = .ok (.aload_n 0, 1) := by decide +kernel
theorem dMo_readBin_25 : decode bMo_readBin 25 = .ok (.iconst 1, 1) := by decide +kernel
theorem dMo_readBin_26 : decode bMo_readBin 26 = .ok (.sipush 999, 3) := by decide +kernel
theorem dMo_readBin_29 : decode bMo_readBin 29 = .ok (.invokevirtual 227, 3) := by decide +kernel
theorem dMo_readBin_32 : decode bMo_readBin 32 = .ok (.putfield 186, 3) := by decide +kernel
theorem dMo_readBin_35 : decode bMo_readBin 35 = .ok (.aload_n 0, 1) := by decide +kernel
theorem dMo_readBin_36 : decode bMo_readBin 36 = .ok (.ldc 250, 2) := by decide +kernel
theorem dMo_readBin_38 : decode bMo_readBin 38 = .ok (.invokevirtual 223, 3) := by decide +kernel
theorem dMo_readBin_41 : decode bMo_readBin 41 = .ok (.aload_n 0, 1) := by decide +kernel
theorem dMo_readBin_42 : decode bMo_readBin 42 = .ok (.getfield 172, 3) := by decide +kernel
theorem dMo_readBin_45 : decode bMo_readBin 45 = .ok (.aload_n 0, 1) := by decide +kernel
theorem dMo_readBin_46 : decode bMo_readBin 46 = .ok (.iconst 0, 1) := by decide +kernel
theorem dMo_readBin_47 : decode bMo_readBin 47 = .ok (.sipush 200, 3) := by decide +kernel
theorem dMo_readBin_50 : decode bMo_readBin 50 = .ok (.invokevirtual 227, 3) := by decide +kernel
theorem dMo_readBin_53 : decode bMo_readBin 53 = .ok (.putfield 252, 3) := by decide +kernel
theorem dMo_readBin_56 : decode bMo_readBin 56 = .ok (.return_, 1) := by decide +kernel
theorem dMo_readPrices_0 : decode bMo_readPrices 0 = .ok (.aload_n 0, 1) := by decide +kernel
theorem dMo_readPrices_1 : decode bMo_readPrices 1 = .ok (.aload_n 0, 1) := by decide +kernel
theorem dMo_readPrices_2 : decode bMo_readPrices 2 = .ok (.getfield 172, 3) := by decide +kernel
theorem dMo_readPrices_5 : decode bMo_readPrices 5 = .ok (.getfield 188, 3) := by decide +kernel
theorem dMo_readPrices_8 : decode bMo_readPrices 8 = .ok (.ifCond .le 7, 3) := by decide +kernel
theorem dMo_readPrices_11 : decode bMo_readPrices 11 = .ok (.iconst 1, 1) := by decide +kernel
theorem dMo_readPrices_12 : decode bMo_readPrices 12 = .ok (.goto 4, 3) := by decide +kernel
theorem dMo_readPrices_15 : decode bMo_readPrices 15 = .ok (.iconst 0, 1) := by decide +kernel
theorem dMo_readPrices_16 : decode bMo_readPrices 16 = .ok (.invokevirtual 218, 3) := by decide +kernel
theorem dMo_readPrices_19 : decode bMo_readPrices 19 = .ok (.iconst 1, 1) := by decide +kernel
theorem dMo_readPrices_20 : decode bMo_readPrices 20 = .ok (.istore_n 1, 1) := by decide +kernel
theorem dMo_readPrices_21 : decode bMo_readPrices 21 = .ok (.iload_n 1, 1) := by decide +kernel
theorem dMo_readPrices_22 : decode bMo_readPrices 22 = .ok (.ifCond .eq 90, 3) := by decide +kernel
theorem dMo_readPrices_25 : decode bMo_readPrices 25 = .ok (.aload_n 0, 1) := by decide +kernel
theorem dMo_readPrices_26 : decode bMo_readPrices 26 = .ok (.getfield 104, 3) := by decide +kernel
theorem dMo_readPrices_29 : decode bMo_readPrices 29 = .ok (.istore_n 2, 1) := by decide +kernel
theorem dMo_readPrices_30 : decode bMo_readPrices 30 = .ok (.aload_n 0, 1) := by decide +kernel
theorem dMo_readPrices_31 : decode bMo_readPrices 31 = .ok (.iconst 0, 1) := by decide +kernel
theorem dMo_readPrices_32 : decode bMo_readPrices 32 = .ok (.bipush 99, 2) := by decide +kernel
theorem dMo_readPrices_34 : decode bMo_readPrices 34 = .ok (.invokevirtual 227, 3) := by decide +kernel
theorem dMo_readPrices_37 : decode bMo_readPrices 37 = .ok (.istore_n 3, 1) := by decide +kernel
theorem dMo_readPrices_38 : decode bMo_readPrices 38 = .ok (.aload_n 0, 1) := by decide +kernel
theorem dMo_readPrices_39 : decode bMo_readPrices 39 = .ok (.getfield 172, 3) := by decide +kernel
theorem dMo_readPrices_42 : decode bMo_readPrices 42 = .ok (.getfield 188, 3) := by decide +kernel
theorem dMo_readPrices_45 : decode bMo_readPrices 45 = .ok (.bipush 6, 2) := by decide +kernel
theorem dMo_readPrices_47 : decode bMo_readPrices 47 = .ok (.if_icmp .ne 9, 3) := by decide +kernel
theorem dMo_readPrices_50 : decode bMo_readPrices 50 = .ok (.aload_n 0, 1) := by decide +kernel
theorem dMo_readPrices_51 : decode bMo_readPrices 51 = .ok (.iconst 5, 1) := by decide +kernel
theorem dMo_readPrices_52 : decode bMo_readPrices 52 = .ok (.iload_n 2, 1) := by decide +kernel
theorem dMo_readPrices_53 : decode bMo_readPrices 53 = .ok (.invokevirtual 124, 3) := by decide +kernel
theorem dMo_readPrices_56 : decode bMo_readPrices 56 = .ok (.aload_n 0, 1) := by decide +kernel
theorem dMo_readPrices_57 : decode bMo_readPrices 57 = .ok (.getfield 94, 3) := by decide +kernel
theorem dMo_readPrices_60 : decode bMo_readPrices 60 = .ok (.iconst 5, 1) := by decide +kernel
theorem dMo_readPrices_61 : decode bMo_readPrices 61 = .ok (.if_icmp .ne 4, 3) := by decide +kernel
theorem dMo_readPrices_64 : decode bMo_readPrices 64 = .ok (.return_, 1) := by decide +kernel
theorem dMo_readPrices_65 : decode bMo_readPrices 65 = .ok (.aload_n 0, 1) := by decide +kernel
theorem dMo_readPrices_66 : decode bMo_readPrices 66 = .ok (.getfield 172, 3) := by decide +kernel
theorem dMo_readPrices_69 : decode bMo_readPrices 69 = .ok (.getfield 254, 3) := by decide +kernel
theorem dMo_readPrices_72 : decode bMo_readPrices 72 = .ok (.aload_n 0, 1) := by decide +kernel
theorem dMo_readPrices_73 : decode bMo_readPrices 73 = .ok (.getfield 172, 3) := by decide +kernel
theorem dMo_readPrices_76 : decode bMo_readPrices 76 = .ok (.getfield 188, 3) := by decide +kernel
theorem dMo_readPrices_79 : decode bMo_readPrices 79 = .ok (.iload_n 3, 1) := by decide +kernel
theorem dMo_readPrices_80 : decode bMo_readPrices 80 = .ok (.iastore, 1) := by decide +kernel
theorem dMo_readPrices_81 : decode bMo_readPrices 81 = .ok (.aload_n 0, 1) := by decide +kernel
theorem dMo_readPrices_82 : decode bMo_readPrices 82 = .ok (.getfield 172, 3) := by decide +kernel
theorem dMo_readPrices_85 : decode bMo_readPrices 85 = .ok (.dup, 1) := by decide +kernel
theorem dMo_readPrices_86 : decode bMo_readPrices 86 = .ok (.getfield 188, 3) := by decide +kernel
theorem dMo_readPrices_89 : decode bMo_readPrices 89 = .ok (.iconst 1, 1) := by decide +kernel
theorem dMo_readPrices_90 : decode bMo_readPrices 90 = .ok (.iadd, 1) := by decide +kernel
theorem dMo_readPrices_91 : decode bMo_readPrices 91 = .ok (.putfield 188, 3) := by decide +kernel
theorem dMo_readPrices_94 : decode bMo_readPrices 94 = .ok (.aload_n 0, 1) := by decide +kernel
theorem dMo_readPrices_95 : decode bMo_readPrices 95 = .ok (.bipush 44, 2) := by decide +kernel
theorem dMo_readPrices_97 : decode bMo_readPrices 97 = .ok (.invokevirtual 169, 3) := by decide +kernel
theorem dMo_readPrices_100 : decode bMo_readPrices 100 = .ok (.istore_n 1, 1) := by decide +kernel
theorem dMo_readPrices_101 : decode bMo_readPrices 101 = .ok (.iload_n 1, 1) := by decide +kernel
theorem dMo_readPrices_102 : decode bMo_readPrices 102 = .ok (.ifCond .eq 7, 3) := by decide +kernel
theorem dMo_readPrices_105 : decode bMo_readPrices 105 = .ok (.aload_n 0, 1) := by decide +kernel
theorem dMo_readPrices_106 : decode bMo_readPrices 106 = .ok (.invokevirtual 146, 3) := by decide +kernel
theorem dMo_readPrices_109 : decode bMo_readPrices 109 = .ok (.goto (-88), 3) := by decide +kernel
theorem dMo_readPrices_112 : decode bMo_readPrices 112 = .ok (.return_, 1) := by decide +kernel
theorem dMo_readFresh_0 : decode bMo_readFresh 0 = .ok (.aload_n 0, 1) := by decide +kernel
theorem dMo_readFresh_1 : decode bMo_readFresh 1 = .ok (.invokevirtual 235, 3) := by decide +kernel
theorem dMo_readFresh_4 : decode bMo_readFresh 4 = .ok (.ifCond .ne 8, 3) := by decide +kernel
theorem dMo_readFresh_7 : decode bMo_readFresh 7 = .ok (.aload_n 0, 1) := by decide +kernel
theorem dMo_readFresh_8 : decode bMo_readFresh 8 = .ok (.iconst 1, 1) := by decide +kernel
theorem dMo_readFresh_9 : decode bMo_readFresh 9 = .ok (.invokevirtual 142, 3) := by decide +kernel
theorem dMo_readFresh_12 : decode bMo_readFresh 12 = .ok (.aload_n 0, 1) := by decide +kernel
theorem dMo_readFresh_13 : decode bMo_readFresh 13 = .ok (.getfield 172, 3) := by decide +kernel
theorem dMo_readFresh_16 : decode bMo_readFresh 16 = .ok (.aload_n 0, 1) := by decide +kernel
theorem dMo_readFresh_17 : decode bMo_readFresh 17 = .ok (.getfield 114, 3) := by decide +kernel
theorem dMo_readFresh_20 : decode bMo_readFresh 20 = .ok (.invokevirtual 239, 3) := by decide +kernel
theorem dMo_readFresh_23 : decode bMo_readFresh 23 = .ok (.iconst (-1), 1) := by decide +kernel
theorem dMo_readFresh_24 : decode bMo_readFresh 24 = .ok (.if_icmp .eq 8, 3) := by decide +kernel
theorem dMo_readFresh_27 : decode bMo_readFresh 27 = .ok (.aload_n 0, 1) := by decide +kernel
theorem dMo_readFresh_28 : decode bMo_readFresh 28 = .ok (.iconst 3, 1) := by decide +kernel
theorem dMo_readFresh_29 : decode bMo_readFresh 29 = .ok (.invokevirtual 142, 3) := by decide +kernel
theorem dMo_readFresh_32 : decode bMo_readFresh 32 = .ok (.aload_n 0, 1) := by decide +kernel
theorem dMo_readFresh_33 : decode bMo_readFresh 33 = .ok (.getfield 94, 3) := by decide +kernel
theorem dMo_readFresh_36 : decode bMo_readFresh 36 = .ok (.iconst 5, 1) := by decide +kernel
theorem dMo_readFresh_37 : decode bMo_readFresh 37 = .ok (.if_icmp .ne 4, 3) := by decide +kernel
theorem dMo_readFresh_40 : decode bMo_readFresh 40 = .ok (.return_, 1) := by decide +kernel
theorem dMo_readFresh_41 : decode bMo_readFresh 41 = .ok (.aload_n 0, 1) := by decide +kernel
theorem dMo_readFresh_42 : decode bMo_readFresh 42 = .ok (.getfield 172, 3) := by decide +kernel
theorem dMo_readFresh_45 : decode bMo_readFresh 45 = .ok (.getfield 256, 3) := by decide +kernel
theorem dMo_readFresh_48 : decode bMo_readFresh 48 = .ok (.aload_n 0, 1) := by decide +kernel
theorem dMo_readFresh_49 : decode bMo_readFresh 49 = .ok (.getfield 172, 3) := by decide +kernel
theorem dMo_readFresh_52 : decode bMo_readFresh 52 = .ok (.getfield 259, 3) := by decide +kernel
theorem dMo_readFresh_55 : decode bMo_readFresh 55 = .ok (.aload_n 0, 1) := by decide +kernel
theorem dMo_readFresh_56 : decode bMo_readFresh 56 = .ok (.getfield 114, 3) := by decide +kernel
theorem dMo_readFresh_59 : decode bMo_readFresh 59 = .ok (.lastore, 1) := by decide +kernel
theorem dMo_readFresh_60 : decode bMo_readFresh 60 = .ok (.aload_n 0, 1) := by decide +kernel
theorem dMo_readFresh_61 : decode bMo_readFresh 61 = .ok (.getfield 172, 3) := by decide +kernel
theorem dMo_readFresh_64 : decode bMo_readFresh 64 = .ok (.getfield 243, 3) := by decide +kernel
theorem dMo_readFresh_67 : decode bMo_readFresh 67 = .ok (.aload_n 0, 1) := by decide +kernel
theorem dMo_readFresh_68 : decode bMo_readFresh 68 = .ok (.getfield 172, 3) := by decide +kernel
theorem dMo_readFresh_71 : decode bMo_readFresh 71 = .ok (.getfield 259, 3) := by decide +kernel
theorem dMo_readFresh_74 : decode bMo_readFresh 74 = .ok (.iload_n 1, 1) := by decide +kernel
theorem dMo_readFresh_75 : decode bMo_readFresh 75 = .ok (.iastore, 1) := by decide +kernel
theorem dMo_readFresh_76 : decode bMo_readFresh 76 = .ok (.aload_n 0, 1) := by decide +kernel
theorem dMo_readFresh_77 : decode bMo_readFresh 77 = .ok (.getfield 172, 3) := by decide +kernel
theorem dMo_readFresh_80 : decode bMo_readFresh 80 = .ok (.dup, 1) := by decide +kernel
theorem dMo_readFresh_81 : decode bMo_readFresh 81 = .ok (.getfield 259, 3) := by decide +kernel
theorem dMo_readFresh_84 : decode bMo_readFresh 84 = .ok (.iconst 1, 1) := by decide +kernel
theorem dMo_readFresh_85 : decode bMo_readFresh 85 = .ok (.iadd, 1) := by decide +kernel
theorem dMo_readFresh_86 : decode bMo_readFresh 86 = .ok (.putfield 259, 3) := by decide +kernel
theorem dMo_readFresh_89 : decode bMo_readFresh 89 = .ok (.aload_n 0, 1) := by decide +kernel
theorem dMo_readFresh_90 : decode bMo_readFresh 90 = .ok (.invokevirtual 146, 3) := by decide +kernel
theorem dMo_readFresh_93 : decode bMo_readFresh 93 = .ok (.return_, 1) := by decide +kernel
theorem dMo_readSize_0 : decode bMo_readSize 0 = .ok (.aload_n 0, 1) := by decide +kernel
theorem dMo_readSize_1 : decode bMo_readSize 1 = .ok (.getfield 172, 3) := by decide +kernel
theorem dMo_readSize_4 : decode bMo_readSize 4 = .ok (.getfield 191, 3) := by decide +kernel
theorem dMo_readSize_7 : decode bMo_readSize 7 = .ok (.iconst 5, 1) := by decide +kernel
theorem dMo_readSize_8 : decode bMo_readSize 8 = .ok (.if_icmp .ne 8, 3) := by decide +kernel
theorem dMo_readSize_11 : decode bMo_readSize 11 = .ok (.aload_n 0, 1) := by decide +kernel
theorem dMo_readSize_12 : decode bMo_readSize 12 = .ok (.iconst 5, 1) := by decide +kernel
theorem dMo_readSize_13 : decode bMo_readSize 13 = .ok (.invokevirtual 142, 3) := by decide +kernel
theorem dMo_readSize_16 : decode bMo_readSize 16 = .ok (.aload_n 0, 1) := by decide +kernel
theorem dMo_readSize_17 : decode bMo_readSize 17 = .ok (.invokevirtual 146, 3) := by decide +kernel
theorem dMo_readSize_20 : decode bMo_readSize 20 = .ok (.aload_n 0, 1) := by decide +kernel
theorem dMo_readSize_21 : decode bMo_readSize 21 = .ok (.aload_n 0, 1) := by decide +kernel
theorem dMo_readSize_22 : decode bMo_readSize 22 = .ok (.getfield 172, 3) := by decide +kernel
theorem dMo_readSize_25 : decode bMo_readSize 25 = .ok (.getfield 191, 3) := by decide +kernel
theorem dMo_readSize_28 : decode bMo_readSize 28 = .ok (.invokevirtual 262, 3) := by decide +kernel
theorem dMo_readSize_31 : decode bMo_readSize 31 = .ok (.aload_n 0, 1) := by decide +kernel
theorem dMo_readSize_32 : decode bMo_readSize 32 = .ok (.getfield 94, 3) := by decide +kernel
theorem dMo_readSize_35 : decode bMo_readSize 35 = .ok (.iconst 5, 1) := by decide +kernel
theorem dMo_readSize_36 : decode bMo_readSize 36 = .ok (.if_icmp .ne 4, 3) := by decide +kernel
theorem dMo_readSize_39 : decode bMo_readSize 39 = .ok (.return_, 1) := by decide +kernel
theorem dMo_readSize_40 : decode bMo_readSize 40 = .ok (.aload_n 0, 1) := by decide +kernel
theorem dMo_readSize_41 : decode bMo_readSize 41 = .ok (.ldc_w 265, 3) := by decide +kernel
theorem dMo_readSize_44 : decode bMo_readSize 44 = .ok (.invokevirtual 138, 3) := by decide +kernel
theorem dMo_readSize_47 : decode bMo_readSize 47 = .ok (.ifCond .eq 58, 3) := by decide +kernel
theorem dMo_readSize_50 : decode bMo_readSize 50 = .ok (.aload_n 0, 1) := by decide +kernel
theorem dMo_readSize_51 : decode bMo_readSize 51 = .ok (.invokevirtual 146, 3) := by decide +kernel
theorem dMo_readSize_54 : decode bMo_readSize 54 = .ok (.aload_n 0, 1) := by decide +kernel
theorem dMo_readSize_55 : decode bMo_readSize 55 = .ok (.getfield 172, 3) := by decide +kernel
theorem dMo_readSize_58 : decode bMo_readSize 58 = .ok (.getfield 267, 3) := by decide +kernel
theorem dMo_readSize_61 : decode bMo_readSize 61 = .ok (.aload_n 0, 1) := by decide +kernel
theorem dMo_readSize_62 : decode bMo_readSize 62 = .ok (.getfield 172, 3) := by decide +kernel
theorem dMo_readSize_65 : decode bMo_readSize 65 = .ok (.getfield 191, 3) := by decide +kernel
theorem dMo_readSize_68 : decode bMo_readSize 68 = .ok (.aload_n 0, 1) := by decide +kernel
theorem dMo_readSize_69 : decode bMo_readSize 69 = .ok (.iconst 0, 1) := by decide +kernel
theorem dMo_readSize_70 : decode bMo_readSize 70 = .ok (.bipush 100, 2) := by decide +kernel
theorem dMo_readSize_72 : decode bMo_readSize 72 = .ok (.invokevirtual 227, 3) := by decide +kernel
theorem dMo_readSize_75 : decode bMo_readSize 75 = .ok (.iastore, 1) := by decide +kernel
theorem dMo_readSize_76 : decode bMo_readSize 76 = .ok (.aload_n 0, 1) := by decide +kernel
theorem dMo_readSize_77 : decode bMo_readSize 77 = .ok (.ldc_w 269, 3) := by decide +kernel
theorem dMo_readSize_80 : decode bMo_readSize 80 = .ok (.invokevirtual 223, 3) := by decide +kernel
theorem dMo_readSize_83 : decode bMo_readSize 83 = .ok (.aload_n 0, 1) := by decide +kernel
theorem dMo_readSize_84 : decode bMo_readSize 84 = .ok (.getfield 172, 3) := by decide +kernel
theorem dMo_readSize_87 : decode bMo_readSize 87 = .ok (.getfield 270, 3) := by decide +kernel
theorem dMo_readSize_90 : decode bMo_readSize 90 = .ok (.aload_n 0, 1) := by decide +kernel
theorem dMo_readSize_91 : decode bMo_readSize 91 = .ok (.getfield 172, 3) := by decide +kernel
theorem dMo_readSize_94 : decode bMo_readSize 94 = .ok (.getfield 191, 3) := by decide +kernel
theorem dMo_readSize_97 : decode bMo_readSize 97 = .ok (.aload_n 0, 1) := by decide +kernel
theorem dMo_readSize_98 : decode bMo_readSize 98 = .ok (.iconst 0, 1) := by decide +kernel
theorem dMo_readSize_99 : decode bMo_readSize 99 = .ok (.bipush 100, 2) := by decide +kernel
theorem dMo_readSize_101 : decode bMo_readSize 101 = .ok (.invokevirtual 227, 3) := by decide +kernel
theorem dMo_readSize_104 : decode bMo_readSize 104 = .ok (.iastore, 1) := by decide +kernel
theorem dMo_readSize_105 : decode bMo_readSize 105 = .ok (.aload_n 0, 1) := by decide +kernel
theorem dMo_readSize_106 : decode bMo_readSize 106 = .ok (.getfield 172, 3) := by decide +kernel
theorem dMo_readSize_109 : decode bMo_readSize 109 = .ok (.dup, 1) := by decide +kernel
theorem dMo_readSize_110 : decode bMo_readSize 110 = .ok (.getfield 191, 3) := by decide +kernel
theorem dMo_readSize_113 : decode bMo_readSize 113 = .ok (.iconst 1, 1) := by decide +kernel
theorem dMo_readSize_114 : decode bMo_readSize 114 = .ok (.iadd, 1) := by decide +kernel
theorem dMo_readSize_115 : decode bMo_readSize 115 = .ok (.putfield 191, 3) := by decide +kernel
theorem dMo_readSize_118 : decode bMo_readSize 118 = .ok (.return_, 1) := by decide +kernel
theorem dMo_readOre_0 : decode bMo_readOre 0 = .ok (.aload_n 0, 1) := by decide +kernel
theorem dMo_readOre_1 : decode bMo_readOre 1 = .ok (.getfield 172, 3) := by decide +kernel
theorem dMo_readOre_4 : decode bMo_readOre 4 = .ok (.getfield 194, 3) := by decide +kernel
theorem dMo_readOre_7 : decode bMo_readOre 7 = .ok (.iconst 4, 1) := by decide +kernel
theorem dMo_readOre_8 : decode bMo_readOre 8 = .ok (.if_icmp .ne 8, 3) := by decide +kernel
theorem dMo_readOre_11 : decode bMo_readOre 11 = .ok (.aload_n 0, 1) := by decide +kernel
theorem dMo_readOre_12 : decode bMo_readOre 12 = .ok (.iconst 5, 1) := by decide +kernel
theorem dMo_readOre_13 : decode bMo_readOre 13 = .ok (.invokevirtual 142, 3) := by decide +kernel
theorem dMo_readOre_16 : decode bMo_readOre 16 = .ok (.aload_n 0, 1) := by decide +kernel
theorem dMo_readOre_17 : decode bMo_readOre 17 = .ok (.invokevirtual 146, 3) := by decide +kernel
theorem dMo_readOre_20 : decode bMo_readOre 20 = .ok (.aload_n 0, 1) := by decide +kernel
theorem dMo_readOre_21 : decode bMo_readOre 21 = .ok (.iconst (-1), 1) := by decide +kernel
theorem dMo_readOre_22 : decode bMo_readOre 22 = .ok (.invokevirtual 262, 3) := by decide +kernel
theorem dMo_readOre_25 : decode bMo_readOre 25 = .ok (.aload_n 0, 1) := by decide +kernel
theorem dMo_readOre_26 : decode bMo_readOre 26 = .ok (.ldc_w 272, 3) := by decide +kernel
theorem dMo_readOre_29 : decode bMo_readOre 29 = .ok (.invokevirtual 223, 3) := by decide +kernel
theorem dMo_readOre_32 : decode bMo_readOre 32 = .ok (.aload_n 0, 1) := by decide +kernel
theorem dMo_readOre_33 : decode bMo_readOre 33 = .ok (.iconst 1, 1) := by decide +kernel
theorem dMo_readOre_34 : decode bMo_readOre 34 = .ok (.bipush 9, 2) := by decide +kernel
theorem dMo_readOre_36 : decode bMo_readOre 36 = .ok (.invokevirtual 227, 3) := by decide +kernel
theorem dMo_readOre_39 : decode bMo_readOre 39 = .ok (.istore_n 1, 1) := by decide +kernel
theorem dMo_readOre_40 : decode bMo_readOre 40 = .ok (.aload_n 0, 1) := by decide +kernel
theorem dMo_readOre_41 : decode bMo_readOre 41 = .ok (.ldc_w 274, 3) := by decide +kernel
theorem dMo_readOre_44 : decode bMo_readOre 44 = .ok (.invokevirtual 223, 3) := by decide +kernel
theorem dMo_readOre_47 : decode bMo_readOre 47 = .ok (.aload_n 0, 1) := by decide +kernel
theorem dMo_readOre_48 : decode bMo_readOre 48 = .ok (.getfield 94, 3) := by decide +kernel
theorem dMo_readOre_51 : decode bMo_readOre 51 = .ok (.iconst 5, 1) := by decide +kernel
theorem dMo_readOre_52 : decode bMo_readOre 52 = .ok (.if_icmp .ne 4, 3) := by decide +kernel
theorem dMo_readOre_55 : decode bMo_readOre 55 = .ok (.return_, 1) := by decide +kernel
theorem dMo_readOre_56 : decode bMo_readOre 56 = .ok (.aload_n 0, 1) := by decide +kernel
theorem dMo_readOre_57 : decode bMo_readOre 57 = .ok (.getfield 172, 3) := by decide +kernel
theorem dMo_readOre_60 : decode bMo_readOre 60 = .ok (.getfield 276, 3) := by decide +kernel
theorem dMo_readOre_63 : decode bMo_readOre 63 = .ok (.aload_n 0, 1) := by decide +kernel
theorem dMo_readOre_64 : decode bMo_readOre 64 = .ok (.getfield 172, 3) := by decide +kernel
theorem dMo_readOre_67 : decode bMo_readOre 67 = .ok (.getfield 194, 3) := by decide +kernel
theorem dMo_readOre_70 : decode bMo_readOre 70 = .ok (.iload_n 1, 1) := by decide +kernel
theorem dMo_readOre_71 : decode bMo_readOre 71 = .ok (.iastore, 1) := by decide +kernel
theorem dMo_readOre_72 : decode bMo_readOre 72 = .ok (.iconst 1, 1) := by decide +kernel
theorem dMo_readOre_73 : decode bMo_readOre 73 = .ok (.istore_n 2, 1) := by decide +kernel
theorem dMo_readOre_74 : decode bMo_readOre 74 = .ok (.iconst 0, 1) := by decide +kernel
theorem dMo_readOre_75 : decode bMo_readOre 75 = .ok (.istore_n 3, 1) := by decide +kernel
theorem dMo_readOre_76 : decode bMo_readOre 76 = .ok (.iload_n 2, 1) := by decide +kernel
theorem dMo_readOre_77 : decode bMo_readOre 77 = .ok (.ifCond .eq 87, 3) := by decide +kernel
theorem dMo_readOre_80 : decode bMo_readOre 80 = .ok (.aload_n 0, 1) := by decide +kernel
theorem dMo_readOre_81 : decode bMo_readOre 81 = .ok (.getfield 104, 3) := by decide +kernel
theorem dMo_readOre_84 : decode bMo_readOre 84 = .ok (.istore 4, 2) := by decide +kernel
theorem dMo_readOre_86 : decode bMo_readOre 86 = .ok (.aload_n 0, 1) := by decide +kernel
theorem dMo_readOre_87 : decode bMo_readOre 87 = .ok (.iconst 0, 1) := by decide +kernel
theorem dMo_readOre_88 : decode bMo_readOre 88 = .ok (.bipush 50, 2) := by decide +kernel
theorem dMo_readOre_90 : decode bMo_readOre 90 = .ok (.invokevirtual 227, 3) := by decide +kernel
theorem dMo_readOre_93 : decode bMo_readOre 93 = .ok (.istore 5, 2) := by decide +kernel
theorem dMo_readOre_95 : decode bMo_readOre 95 = .ok (.iload_n 3, 1) := by decide +kernel
theorem dMo_readOre_96 : decode bMo_readOre 96 = .ok (.aload_n 0, 1) := by decide +kernel
theorem dMo_readOre_97 : decode bMo_readOre 97 = .ok (.getfield 172, 3) := by decide +kernel
theorem dMo_readOre_100 : decode bMo_readOre 100 = .ok (.getfield 191, 3) := by decide +kernel
theorem dMo_readOre_103 : decode bMo_readOre 103 = .ok (.if_icmp .lt 10, 3) := by decide +kernel
theorem dMo_readOre_106 : decode bMo_readOre 106 = .ok (.aload_n 0, 1) := by decide +kernel
theorem dMo_readOre_107 : decode bMo_readOre 107 = .ok (.iconst 5, 1) := by decide +kernel
theorem dMo_readOre_108 : decode bMo_readOre 108 = .ok (.iload 4, 2) := by decide +kernel
theorem dMo_readOre_110 : decode bMo_readOre 110 = .ok (.invokevirtual 124, 3) := by decide +kernel
theorem dMo_readOre_113 : decode bMo_readOre 113 = .ok (.aload_n 0, 1) := by decide +kernel
theorem dMo_readOre_114 : decode bMo_readOre 114 = .ok (.getfield 94, 3) := by decide +kernel
theorem dMo_readOre_117 : decode bMo_readOre 117 = .ok (.iconst 5, 1) := by decide +kernel
theorem dMo_readOre_118 : decode bMo_readOre 118 = .ok (.if_icmp .ne 4, 3) := by decide +kernel
theorem dMo_readOre_121 : decode bMo_readOre 121 = .ok (.return_, 1) := by decide +kernel
theorem dMo_readOre_122 : decode bMo_readOre 122 = .ok (.aload_n 0, 1) := by decide +kernel
theorem dMo_readOre_123 : decode bMo_readOre 123 = .ok (.getfield 172, 3) := by decide +kernel
theorem dMo_readOre_126 : decode bMo_readOre 126 = .ok (.getfield 278, 3) := by decide +kernel
theorem dMo_readOre_129 : decode bMo_readOre 129 = .ok (.iconst 5, 1) := by decide +kernel
theorem dMo_readOre_130 : decode bMo_readOre 130 = .ok (.aload_n 0, 1) := by decide +kernel
theorem dMo_readOre_131 : decode bMo_readOre 131 = .ok (.getfield 172, 3) := by decide +kernel
theorem dMo_readOre_134 : decode bMo_readOre 134 = .ok (.getfield 194, 3) := by decide +kernel
theorem dMo_readOre_137 : decode bMo_readOre 137 = .ok (.imul, 1) := by decide +kernel
theorem dMo_readOre_138 : decode bMo_readOre 138 = .ok (.iload_n 3, 1) := by decide +kernel
theorem dMo_readOre_139 : decode bMo_readOre 139 = .ok (.iadd, 1) := by decide +kernel
theorem dMo_readOre_140 : decode bMo_readOre 140 = .ok (.iload 5, 2) := by decide +kernel
theorem dMo_readOre_142 : decode bMo_readOre 142 = .ok (.iastore, 1) := by decide +kernel
theorem dMo_readOre_143 : decode bMo_readOre 143 = .ok (.aload_n 0, 1) := by decide +kernel
theorem dMo_readOre_144 : decode bMo_readOre 144 = .ok (.bipush 44, 2) := by decide +kernel
theorem dMo_readOre_146 : decode bMo_readOre 146 = .ok (.invokevirtual 169, 3) := by decide +kernel
theorem dMo_readOre_149 : decode bMo_readOre 149 = .ok (.istore_n 2, 1) := by decide +kernel
theorem dMo_readOre_150 : decode bMo_readOre 150 = .ok (.iload_n 2, 1) := by decide +kernel
theorem dMo_readOre_151 : decode bMo_readOre 151 = .ok (.ifCond .eq 7, 3) := by decide +kernel
theorem dMo_readOre_154 : decode bMo_readOre 154 = .ok (.aload_n 0, 1) := by decide +kernel
theorem dMo_readOre_155 : decode bMo_readOre 155 = .ok (.invokevirtual 146, 3) := by decide +kernel
theorem dMo_readOre_158 : decode bMo_readOre 158 = .ok (.iinc 3 1, 3) := by decide +kernel
theorem dMo_readOre_161 : decode bMo_readOre 161 = .ok (.goto (-85), 3) := by decide +kernel
theorem dMo_readOre_164 : decode bMo_readOre 164 = .ok (.aload_n 0, 1) := by decide +kernel
theorem dMo_readOre_165 : decode bMo_readOre 165 = .ok (.getfield 172, 3) := by decide +kernel
theorem dMo_readOre_168 : decode bMo_readOre 168 = .ok (.dup, 1) := by decide +kernel
theorem dMo_readOre_169 : decode bMo_readOre 169 = .ok (.getfield 194, 3) := by decide +kernel
theorem dMo_readOre_172 : decode bMo_readOre 172 = .ok (.iconst 1, 1) := by decide +kernel
theorem dMo_readOre_173 : decode bMo_readOre 173 = .ok (.iadd, 1) := by decide +kernel
theorem dMo_readOre_174 : decode bMo_readOre 174 = .ok (.putfield 194, 3) := by decide +kernel
theorem dMo_readOre_177 : decode bMo_readOre 177 = .ok (.return_, 1) := by decide +kernel
theorem dMo_feed_0 : decode bMo_feed 0 = .ok (.aload_n 0, 1) := by decide +kernel
theorem dMo_feed_1 : decode bMo_feed 1 = .ok (.iconst 0, 1) := by decide +kernel
theorem dMo_feed_2 : decode bMo_feed 2 = .ok (.putfield 73, 3) := by decide +kernel
theorem dMo_feed_5 : decode bMo_feed 5 = .ok (.aload_n 0, 1) := by decide +kernel
theorem dMo_feed_6 : decode bMo_feed 6 = .ok (.getfield 280, 3) := by decide +kernel
theorem dMo_feed_9 : decode bMo_feed 9 = .ok (.bipush 20, 2) := by decide +kernel
theorem dMo_feed_11 : decode bMo_feed 11 = .ok (.iadd, 1) := by decide +kernel
theorem dMo_feed_12 : decode bMo_feed 12 = .ok (.sipush 700, 3) := by decide +kernel
theorem dMo_feed_15 : decode bMo_feed 15 = .ok (.if_icmp .le 5, 3) := by decide +kernel
theorem dMo_feed_18 : decode bMo_feed 18 = .ok (.iconst (-1), 1) := by decide +kernel
theorem dMo_feed_19 : decode bMo_feed 19 = .ok (.ireturn, 1) := by decide +kernel
theorem dMo_feed_20 : decode bMo_feed 20 = .ok (.iconst 0, 1) := by decide +kernel
theorem dMo_feed_21 : decode bMo_feed 21 = .ok (.istore 6, 2) := by decide +kernel
theorem dMo_feed_23 : decode bMo_feed 23 = .ok (.iload 6, 2) := by decide +kernel
theorem dMo_feed_25 : decode bMo_feed 25 = .ok (.bipush 20, 2) := by decide +kernel
theorem dMo_feed_27 : decode bMo_feed 27 = .ok (.if_icmp .ge 90, 3) := by decide +kernel
theorem dMo_feed_30 : decode bMo_feed 30 = .ok (.iload 6, 2) := by decide +kernel
theorem dMo_feed_32 : decode bMo_feed 32 = .ok (.iconst 4, 1) := by decide +kernel
theorem dMo_feed_33 : decode bMo_feed 33 = .ok (.if_icmp .ge 7, 3) := by decide +kernel
theorem dMo_feed_36 : decode bMo_feed 36 = .ok (.iload_n 1, 1) := by decide +kernel
theorem dMo_feed_37 : decode bMo_feed 37 = .ok (.goto 39, 3) := by decide +kernel
theorem dMo_feed_40 : decode bMo_feed 40 = .ok (.iload 6, 2) := by decide +kernel
theorem dMo_feed_42 : decode bMo_feed 42 = .ok (.bipush 8, 2) := by decide +kernel
theorem dMo_feed_44 : decode bMo_feed 44 = .ok (.if_icmp .ge 7, 3) := by decide +kernel
theorem dMo_feed_47 : decode bMo_feed 47 = .ok (.iload_n 2, 1) := by decide +kernel
theorem dMo_feed_48 : decode bMo_feed 48 = .ok (.goto 28, 3) := by decide +kernel
theorem dMo_feed_51 : decode bMo_feed 51 = .ok (.iload 6, 2) := by decide +kernel
theorem dMo_feed_53 : decode bMo_feed 53 = .ok (.bipush 12, 2) := by decide +kernel
theorem dMo_feed_55 : decode bMo_feed 55 = .ok (.if_icmp .ge 7, 3) := by decide +kernel
theorem dMo_feed_58 : decode bMo_feed 58 = .ok (.iload_n 3, 1) := by decide +kernel
theorem dMo_feed_59 : decode bMo_feed 59 = .ok (.goto 17, 3) := by decide +kernel
theorem dMo_feed_62 : decode bMo_feed 62 = .ok (.iload 6, 2) := by decide +kernel
theorem dMo_feed_64 : decode bMo_feed 64 = .ok (.bipush 16, 2) := by decide +kernel
theorem dMo_feed_66 : decode bMo_feed 66 = .ok (.if_icmp .ge 8, 3) := by decide +kernel
theorem dMo_feed_69 : decode bMo_feed 69 = .ok (.iload 4, 2) := by decide +kernel
theorem dMo_feed_71 : decode bMo_feed 71 = .ok (.goto 5, 3) := by decide +kernel
theorem dMo_feed_74 : decode bMo_feed 74 = .ok (.iload 5, 2) := by decide +kernel
theorem dMo_feed_76 : decode bMo_feed 76 = .ok (.istore 7, 2) := by decide +kernel
theorem dMo_feed_78 : decode bMo_feed 78 = .ok (.aload_n 0, 1) := by decide +kernel
theorem dMo_feed_79 : decode bMo_feed 79 = .ok (.getfield 13, 3) := by decide +kernel
theorem dMo_feed_82 : decode bMo_feed 82 = .ok (.aload_n 0, 1) := by decide +kernel
theorem dMo_feed_83 : decode bMo_feed 83 = .ok (.getfield 280, 3) := by decide +kernel
theorem dMo_feed_86 : decode bMo_feed 86 = .ok (.iload 7, 2) := by decide +kernel
theorem dMo_feed_88 : decode bMo_feed 88 = .ok (.bipush 24, 2) := by decide +kernel
theorem dMo_feed_90 : decode bMo_feed 90 = .ok (.bipush 8, 2) := by decide +kernel
theorem dMo_feed_92 : decode bMo_feed 92 = .ok (.iload 6, 2) := by decide +kernel
theorem dMo_feed_94 : decode bMo_feed 94 = .ok (.iconst 4, 1) := by decide +kernel
theorem dMo_feed_95 : decode bMo_feed 95 = .ok (.irem, 1) := by decide +kernel
theorem dMo_feed_96 : decode bMo_feed 96 = .ok (.imul, 1) := by decide +kernel
theorem dMo_feed_97 : decode bMo_feed 97 = .ok (.isub, 1) := by decide +kernel
theorem dMo_feed_98 : decode bMo_feed 98 = .ok (.ishr, 1) := by decide +kernel
theorem dMo_feed_99 : decode bMo_feed 99 = .ok (.i2b, 1) := by decide +kernel
theorem dMo_feed_100 : decode bMo_feed 100 = .ok (.bastore, 1) := by decide +kernel
theorem dMo_feed_101 : decode bMo_feed 101 = .ok (.aload_n 0, 1) := by decide +kernel
theorem dMo_feed_102 : decode bMo_feed 102 = .ok (.dup, 1) := by decide +kernel
theorem dMo_feed_103 : decode bMo_feed 103 = .ok (.getfield 280, 3) := by decide +kernel
theorem dMo_feed_106 : decode bMo_feed 106 = .ok (.iconst 1, 1) := by decide +kernel
theorem dMo_feed_107 : decode bMo_feed 107 = .ok (.iadd, 1) := by decide +kernel
theorem dMo_feed_108 : decode bMo_feed 108 = .ok (.putfield 280, 3) := by decide +kernel
theorem dMo_feed_111 : decode bMo_feed 111 = .ok (.iinc 6 1, 3) := by decide +kernel
theorem dMo_feed_114 : decode bMo_feed 114 = .ok (.goto (-91), 3) := by decide +kernel
theorem dMo_feed_117 : decode bMo_feed 117 = .ok (.aload_n 0, 1) := by decide +kernel
theorem dMo_feed_118 : decode bMo_feed 118 = .ok (.getfield 280, 3) := by decide +kernel
theorem dMo_feed_121 : decode bMo_feed 121 = .ok (.ireturn, 1) := by decide +kernel
theorem dMo_mill_0 : decode bMo_mill 0 = .ok (.aload_n 0, 1) := by decide +kernel
theorem dMo_mill_1 : decode bMo_mill 1 = .ok (.iconst 0, 1) := by decide +kernel
theorem dMo_mill_2 : decode bMo_mill 2 = .ok (.putfield 73, 3) := by decide +kernel
theorem dMo_mill_5 : decode bMo_mill 5 = .ok (.iload_n 1, 1) := by decide +kernel
theorem dMo_mill_6 : decode bMo_mill 6 = .ok (.ifCond .lt 11, 3) := by decide +kernel
theorem dMo_mill_9 : decode bMo_mill 9 = .ok (.iload_n 1, 1) := by decide +kernel
theorem dMo_mill_10 : decode bMo_mill 10 = .ok (.aload_n 0, 1) := by decide +kernel
theorem dMo_mill_11 : decode bMo_mill 11 = .ok (.getfield 280, 3) := by decide +kernel
theorem dMo_mill_14 : decode bMo_mill 14 = .ok (.if_icmp .le 9, 3) := by decide +kernel
theorem dMo_mill_17 : decode bMo_mill 17 = .ok (.aload_n 0, 1) := by decide +kernel
theorem dMo_mill_18 : decode bMo_mill 18 = .ok (.iconst 2, 1) := by decide +kernel
theorem dMo_mill_19 : decode bMo_mill 19 = .ok (.invokevirtual 283, 3) := by decide +kernel
theorem dMo_mill_22 : decode bMo_mill 22 = .ok (.ireturn, 1) := by decide +kernel
theorem dMo_mill_23 : decode bMo_mill 23 = .ok (.aload_n 0, 1) := by decide +kernel
theorem dMo_mill_24 : decode bMo_mill 24 = .ok (.iload_n 1, 1) := by decide +kernel
theorem dMo_mill_25 : decode bMo_mill 25 = .ok (.putfield 79, 3) := by decide +kernel
theorem dMo_mill_28 : decode bMo_mill 28 = .ok (.aload_n 0, 1) := by decide +kernel
theorem dMo_mill_29 : decode bMo_mill 29 = .ok (.iconst 0, 1) := by decide +kernel
theorem dMo_mill_30 : decode bMo_mill 30 = .ok (.putfield 280, 3) := by decide +kernel
theorem dMo_mill_33 : decode bMo_mill 33 = .ok (.aload_n 0, 1) := by decide +kernel
theorem dMo_mill_34 : decode bMo_mill 34 = .ok (.iconst 0, 1) := by decide +kernel
theorem dMo_mill_35 : decode bMo_mill 35 = .ok (.putfield 97, 3) := by decide +kernel
theorem dMo_mill_38 : decode bMo_mill 38 = .ok (.aload_n 0, 1) := by decide +kernel
theorem dMo_mill_39 : decode bMo_mill 39 = .ok (.iconst 0, 1) := by decide +kernel
theorem dMo_mill_40 : decode bMo_mill 40 = .ok (.putfield 128, 3) := by decide +kernel
theorem dMo_mill_43 : decode bMo_mill 43 = .ok (.aload_n 0, 1) := by decide +kernel
theorem dMo_mill_44 : decode bMo_mill 44 = .ok (.new 177, 3) := by decide +kernel
theorem dMo_mill_47 : decode bMo_mill 47 = .ok (.dup, 1) := by decide +kernel
theorem dMo_mill_48 : decode bMo_mill 48 = .ok (.invokespecial 286, 3) := by decide +kernel
theorem dMo_mill_51 : decode bMo_mill 51 = .ok (.putfield 172, 3) := by decide +kernel
theorem dMo_mill_54 : decode bMo_mill 54 = .ok (.aload_n 0, 1) := by decide +kernel
theorem dMo_mill_55 : decode bMo_mill 55 = .ok (.iconst 0, 1) := by decide +kernel
theorem dMo_mill_56 : decode bMo_mill 56 = .ok (.putfield 94, 3) := by decide +kernel
theorem dMo_mill_59 : decode bMo_mill 59 = .ok (.aload_n 0, 1) := by decide +kernel
theorem dMo_mill_60 : decode bMo_mill 60 = .ok (.invokevirtual 146, 3) := by decide +kernel
theorem dMo_mill_63 : decode bMo_mill 63 = .ok (.aload_n 0, 1) := by decide +kernel
theorem dMo_mill_64 : decode bMo_mill 64 = .ok (.invokevirtual 287, 3) := by decide +kernel
theorem dMo_mill_67 : decode bMo_mill 67 = .ok (.aload_n 0, 1) := by decide +kernel
theorem dMo_mill_68 : decode bMo_mill 68 = .ok (.getfield 128, 3) := by decide +kernel
theorem dMo_mill_71 : decode bMo_mill 71 = .ok (.ifCond .le 18, 3) := by decide +kernel
theorem dMo_mill_74 : decode bMo_mill 74 = .ok (.aload_n 0, 1) := by decide +kernel
theorem dMo_mill_75 : decode bMo_mill 75 = .ok (.iconst 4, 1) := by decide +kernel
theorem dMo_mill_76 : decode bMo_mill 76 = .ok (.putfield 76, 3) := by decide +kernel
theorem dMo_mill_79 : decode bMo_mill 79 = .ok (.aload_n 0, 1) := by decide +kernel
theorem dMo_mill_80 : decode bMo_mill 80 = .ok (.aload_n 0, 1) := by decide +kernel
theorem dMo_mill_81 : decode bMo_mill 81 = .ok (.getfield 131, 3) := by decide +kernel
theorem dMo_mill_84 : decode bMo_mill 84 = .ok (.putfield 9, 3) := by decide +kernel
theorem dMo_mill_87 : decode bMo_mill 87 = .ok (.iconst (-1), 1) := by decide +kernel
theorem dMo_mill_88 : decode bMo_mill 88 = .ok (.ireturn, 1) := by decide +kernel
theorem dMo_mill_89 : decode bMo_mill 89 = .ok (.aload_n 0, 1) := by decide +kernel
theorem dMo_mill_90 : decode bMo_mill 90 = .ok (.aload_n 0, 1) := by decide +kernel
theorem dMo_mill_91 : decode bMo_mill 91 = .ok (.getfield 172, 3) := by decide +kernel
theorem dMo_mill_94 : decode bMo_mill 94 = .ok (.putfield 290, 3) := by decide +kernel
theorem dMo_mill_97 : decode bMo_mill 97 = .ok (.iconst 0, 1) := by decide +kernel
theorem dMo_mill_98 : decode bMo_mill 98 = .ok (.istore_n 2, 1) := by decide +kernel
theorem dMo_mill_99 : decode bMo_mill 99 = .ok (.iload_n 2, 1) := by decide +kernel
theorem dMo_mill_100 : decode bMo_mill 100 = .ok (.bipush 37, 2) := by decide +kernel
theorem dMo_mill_102 : decode bMo_mill 102 = .ok (.if_icmp .ge 16, 3) := by decide +kernel
theorem dMo_mill_105 : decode bMo_mill 105 = .ok (.aload_n 0, 1) := by decide +kernel
theorem dMo_mill_106 : decode bMo_mill 106 = .ok (.getfield 17, 3) := by decide +kernel
theorem dMo_mill_109 : decode bMo_mill 109 = .ok (.iload_n 2, 1) := by decide +kernel
theorem dMo_mill_110 : decode bMo_mill 110 = .ok (.iconst 0, 1) := by decide +kernel
theorem dMo_mill_111 : decode bMo_mill 111 = .ok (.iastore, 1) := by decide +kernel
theorem dMo_mill_112 : decode bMo_mill 112 = .ok (.iinc 2 1, 3) := by decide +kernel
theorem dMo_mill_115 : decode bMo_mill 115 = .ok (.goto (-16), 3) := by decide +kernel
theorem dMo_mill_118 : decode bMo_mill 118 = .ok (.aload_n 0, 1) := by decide +kernel
theorem dMo_mill_119 : decode bMo_mill 119 = .ok (.getfield 17, 3) := by decide +kernel
theorem dMo_mill_122 : decode bMo_mill 122 = .ok (.bipush 34, 2) := by decide +kernel
theorem dMo_mill_124 : decode bMo_mill 124 = .ok (.iconst 1, 1) := by decide +kernel
theorem dMo_mill_125 : decode bMo_mill 125 = .ok (.iastore, 1) := by decide +kernel
theorem dMo_mill_126 : decode bMo_mill 126 = .ok (.aload_n 0, 1) := by decide +kernel
theorem dMo_mill_127 : decode bMo_mill 127 = .ok (.getfield 17, 3) := by decide +kernel
theorem dMo_mill_130 : decode bMo_mill 130 = .ok (.bipush 35, 2) := by decide +kernel
theorem dMo_mill_132 : decode bMo_mill 132 = .ok (.iconst 1, 1) := by decide +kernel
theorem dMo_mill_133 : decode bMo_mill 133 = .ok (.iastore, 1) := by decide +kernel
theorem dMo_mill_134 : decode bMo_mill 134 = .ok (.iconst 0, 1) := by decide +kernel
theorem dMo_mill_135 : decode bMo_mill 135 = .ok (.istore_n 2, 1) := by decide +kernel
theorem dMo_mill_136 : decode bMo_mill 136 = .ok (.iload_n 2, 1) := by decide +kernel
theorem dMo_mill_137 : decode bMo_mill 137 = .ok (.bipush 12, 2) := by decide +kernel
theorem dMo_mill_139 : decode bMo_mill 139 = .ok (.if_icmp .ge 30, 3) := by decide +kernel
theorem dMo_mill_142 : decode bMo_mill 142 = .ok (.aload_n 0, 1) := by decide +kernel
theorem dMo_mill_143 : decode bMo_mill 143 = .ok (.getfield 27, 3) := by decide +kernel
theorem dMo_mill_146 : decode bMo_mill 146 = .ok (.iload_n 2, 1) := by decide +kernel
theorem dMo_mill_147 : decode bMo_mill 147 = .ok (.iconst 1, 1) := by decide +kernel
theorem dMo_mill_148 : decode bMo_mill 148 = .ok (.iastore, 1) := by decide +kernel
theorem dMo_mill_149 : decode bMo_mill 149 = .ok (.aload_n 0, 1) := by decide +kernel
theorem dMo_mill_150 : decode bMo_mill 150 = .ok (.getfield 30, 3) := by decide +kernel
theorem dMo_mill_153 : decode bMo_mill 153 = .ok (.iload_n 2, 1) := by decide +kernel
theorem dMo_mill_154 : decode bMo_mill 154 = .ok (.iconst 1, 1) := by decide +kernel
theorem dMo_mill_155 : decode bMo_mill 155 = .ok (.iastore, 1) := by decide +kernel
theorem dMo_mill_156 : decode bMo_mill 156 = .ok (.aload_n 0, 1) := by decide +kernel
theorem dMo_mill_157 : decode bMo_mill 157 = .ok (.getfield 33, 3) := by decide +kernel
theorem dMo_mill_160 : decode bMo_mill 160 = .ok (.iload_n 2, 1) := by decide +kernel
theorem dMo_mill_161 : decode bMo_mill 161 = .ok (.iconst 0, 1) := by decide +kernel
theorem dMo_mill_162 : decode bMo_mill 162 = .ok (.iastore, 1) := by decide +kernel
theorem dMo_mill_163 : decode bMo_mill 163 = .ok (.iinc 2 1, 3) := by decide +kernel
theorem dMo_mill_166 : decode bMo_mill 166 = .ok (.goto (-30), 3) := by decide +kernel
theorem dMo_mill_169 : decode bMo_mill 169 = .ok (.aload_n 0, 1) := by decide +kernel
theorem dMo_mill_170 : decode bMo_mill 170 = .ok (.iconst 0, 1) := by decide +kernel
theorem dMo_mill_171 : decode bMo_mill 171 = .ok (.putfield 293, 3) := by decide +kernel
theorem dMo_mill_174 : decode bMo_mill 174 = .ok (.aload_n 0, 1) := by decide +kernel
theorem dMo_mill_175 : decode bMo_mill 175 = .ok (.getfield 60, 3) := by decide +kernel
theorem dMo_mill_178 : decode bMo_mill 178 = .ok (.iconst 0, 1) := by decide +kernel
theorem dMo_mill_179 : decode bMo_mill 179 = .ok (.iconst 0, 1) := by decide +kernel
theorem dMo_mill_180 : decode bMo_mill 180 = .ok (.iastore, 1) := by decide +kernel
theorem dMo_mill_181 : decode bMo_mill 181 = .ok (.aload_n 0, 1) := by decide +kernel
theorem dMo_mill_182 : decode bMo_mill 182 = .ok (.getfield 60, 3) := by decide +kernel
theorem dMo_mill_185 : decode bMo_mill 185 = .ok (.iconst 1, 1) := by decide +kernel
theorem dMo_mill_186 : decode bMo_mill 186 = .ok (.iconst 0, 1) := by decide +kernel
theorem dMo_mill_187 : decode bMo_mill 187 = .ok (.iastore, 1) := by decide +kernel
theorem dMo_mill_188 : decode bMo_mill 188 = .ok (.aload_n 0, 1) := by decide +kernel
theorem dMo_mill_189 : decode bMo_mill 189 = .ok (.iconst 0, 1) := by decide +kernel
theorem dMo_mill_190 : decode bMo_mill 190 = .ok (.putfield 296, 3) := by decide +kernel
theorem dMo_mill_193 : decode bMo_mill 193 = .ok (.aload_n 0, 1) := by decide +kernel
theorem dMo_mill_194 : decode bMo_mill 194 = .ok (.iconst 0, 1) := by decide +kernel
theorem dMo_mill_195 : decode bMo_mill 195 = .ok (.putfield 299, 3) := by decide +kernel
theorem dMo_mill_198 : decode bMo_mill 198 = .ok (.aload_n 0, 1) := by decide +kernel
theorem dMo_mill_199 : decode bMo_mill 199 = .ok (.aload_n 0, 1) := by decide +kernel
theorem dMo_mill_200 : decode bMo_mill 200 = .ok (.getfield 290, 3) := by decide +kernel
theorem dMo_mill_203 : decode bMo_mill 203 = .ok (.getfield 191, 3) := by decide +kernel
theorem dMo_mill_206 : decode bMo_mill 206 = .ok (.invokevirtual 302, 3) := by decide +kernel
theorem dMo_mill_209 : decode bMo_mill 209 = .ok (.ireturn, 1) := by decide +kernel
theorem dMo_fault_0 : decode bMo_fault 0 = .ok (.aload_n 0, 1) := by decide +kernel
theorem dMo_fault_1 : decode bMo_fault 1 = .ok (.iconst 0, 1) := by decide +kernel
theorem dMo_fault_2 : decode bMo_fault 2 = .ok (.putfield 73, 3) := by decide +kernel
theorem dMo_fault_5 : decode bMo_fault 5 = .ok (.aload_n 0, 1) := by decide +kernel
theorem dMo_fault_6 : decode bMo_fault 6 = .ok (.getfield 128, 3) := by decide +kernel
theorem dMo_fault_9 : decode bMo_fault 9 = .ok (.ireturn, 1) := by decide +kernel
theorem dMo_where_0 : decode bMo_where 0 = .ok (.aload_n 0, 1) := by decide +kernel
theorem dMo_where_1 : decode bMo_where 1 = .ok (.iconst 0, 1) := by decide +kernel
theorem dMo_where_2 : decode bMo_where 2 = .ok (.putfield 73, 3) := by decide +kernel
theorem dMo_where_5 : decode bMo_where 5 = .ok (.aload_n 0, 1) := by decide +kernel
theorem dMo_where_6 : decode bMo_where 6 = .ok (.getfield 9, 3) := by decide +kernel
theorem dMo_where_9 : decode bMo_where 9 = .ok (.ireturn, 1) := by decide +kernel
theorem dMo_sumOf_0 : decode bMo_sumOf 0 = .ok (.iconst 0, 1) := by decide +kernel
theorem dMo_sumOf_1 : decode bMo_sumOf 1 = .ok (.istore_n 3, 1) := by decide +kernel
theorem dMo_sumOf_2 : decode bMo_sumOf 2 = .ok (.iconst 0, 1) := by decide +kernel
theorem dMo_sumOf_3 : decode bMo_sumOf 3 = .ok (.istore 4, 2) := by decide +kernel
theorem dMo_sumOf_5 : decode bMo_sumOf 5 = .ok (.iload 4, 2) := by decide +kernel
theorem dMo_sumOf_7 : decode bMo_sumOf 7 = .ok (.aload_n 0, 1) := by decide +kernel
theorem dMo_sumOf_8 : decode bMo_sumOf 8 = .ok (.getfield 290, 3) := by decide +kernel
theorem dMo_sumOf_11 : decode bMo_sumOf 11 = .ok (.getfield 191, 3) := by decide +kernel
theorem dMo_sumOf_14 : decode bMo_sumOf 14 = .ok (.if_icmp .ge 18, 3) := by decide +kernel
theorem dMo_sumOf_17 : decode bMo_sumOf 17 = .ok (.iload_n 3, 1) := by decide +kernel
theorem dMo_sumOf_18 : decode bMo_sumOf 18 = .ok (.aload_n 1, 1) := by decide +kernel
theorem dMo_sumOf_19 : decode bMo_sumOf 19 = .ok (.iload_n 2, 1) := by decide +kernel
theorem dMo_sumOf_20 : decode bMo_sumOf 20 = .ok (.iload 4, 2) := by decide +kernel
theorem dMo_sumOf_22 : decode bMo_sumOf 22 = .ok (.iadd, 1) := by decide +kernel
theorem dMo_sumOf_23 : decode bMo_sumOf 23 = .ok (.iaload, 1) := by decide +kernel
theorem dMo_sumOf_24 : decode bMo_sumOf 24 = .ok (.iadd, 1) := by decide +kernel
theorem dMo_sumOf_25 : decode bMo_sumOf 25 = .ok (.istore_n 3, 1) := by decide +kernel
theorem dMo_sumOf_26 : decode bMo_sumOf 26 = .ok (.iinc 4 1, 3) := by decide +kernel
theorem dMo_sumOf_29 : decode bMo_sumOf 29 = .ok (.goto (-24), 3) := by decide +kernel
theorem dMo_sumOf_32 : decode bMo_sumOf 32 = .ok (.iload_n 3, 1) := by decide +kernel
theorem dMo_sumOf_33 : decode bMo_sumOf 33 = .ok (.ireturn, 1) := by decide +kernel
theorem dMo_goes_0 : decode bMo_goes 0 = .ok (.iconst 0, 1) := by decide +kernel
theorem dMo_goes_1 : decode bMo_goes 1 = .ok (.istore_n 2, 1) := by decide +kernel
theorem dMo_goes_2 : decode bMo_goes 2 = .ok (.iload_n 2, 1) := by decide +kernel
theorem dMo_goes_3 : decode bMo_goes 3 = .ok (.aload_n 0, 1) := by decide +kernel
theorem dMo_goes_4 : decode bMo_goes 4 = .ok (.getfield 290, 3) := by decide +kernel
theorem dMo_goes_7 : decode bMo_goes 7 = .ok (.getfield 191, 3) := by decide +kernel
theorem dMo_goes_10 : decode bMo_goes 10 = .ok (.if_icmp .ge 79, 3) := by decide +kernel
theorem dMo_goes_13 : decode bMo_goes 13 = .ok (.aload_n 1, 1) := by decide +kernel
theorem dMo_goes_14 : decode bMo_goes 14 = .ok (.bipush 26, 2) := by decide +kernel
theorem dMo_goes_16 : decode bMo_goes 16 = .ok (.iaload, 1) := by decide +kernel
theorem dMo_goes_17 : decode bMo_goes 17 = .ok (.iconst 1, 1) := by decide +kernel
theorem dMo_goes_18 : decode bMo_goes 18 = .ok (.if_icmp .ne 7, 3) := by decide +kernel
theorem dMo_goes_21 : decode bMo_goes 21 = .ok (.iconst 0, 1) := by decide +kernel
theorem dMo_goes_22 : decode bMo_goes 22 = .ok (.goto 24, 3) := by decide +kernel
theorem dMo_goes_25 : decode bMo_goes 25 = .ok (.aload_n 1, 1) := by decide +kernel
theorem dMo_goes_26 : decode bMo_goes 26 = .ok (.bipush 34, 2) := by decide +kernel
theorem dMo_goes_28 : decode bMo_goes 28 = .ok (.iaload, 1) := by decide +kernel
theorem dMo_goes_29 : decode bMo_goes 29 = .ok (.aload_n 0, 1) := by decide +kernel
theorem dMo_goes_30 : decode bMo_goes 30 = .ok (.getfield 290, 3) := by decide +kernel
theorem dMo_goes_33 : decode bMo_goes 33 = .ok (.getfield 278, 3) := by decide +kernel
theorem dMo_goes_36 : decode bMo_goes 36 = .ok (.iconst 5, 1) := by decide +kernel
theorem dMo_goes_37 : decode bMo_goes 37 = .ok (.aload_n 1, 1) := by decide +kernel
theorem dMo_goes_38 : decode bMo_goes 38 = .ok (.bipush 36, 2) := by decide +kernel
theorem dMo_goes_40 : decode bMo_goes 40 = .ok (.iaload, 1) := by decide +kernel
theorem dMo_goes_41 : decode bMo_goes 41 = .ok (.imul, 1) := by decide +kernel
theorem dMo_goes_42 : decode bMo_goes 42 = .ok (.iload_n 2, 1) := by decide +kernel
theorem dMo_goes_43 : decode bMo_goes 43 = .ok (.iadd, 1) := by decide +kernel
theorem dMo_goes_44 : decode bMo_goes 44 = .ok (.iaload, 1) := by decide +kernel
theorem dMo_goes_45 : decode bMo_goes 45 = .ok (.imul, 1) := by decide +kernel
theorem dMo_goes_46 : decode bMo_goes 46 = .ok (.istore_n 3, 1) := by decide +kernel
theorem dMo_goes_47 : decode bMo_goes 47 = .ok (.aload_n 1, 1) := by decide +kernel
theorem dMo_goes_48 : decode bMo_goes 48 = .ok (.bipush 33, 2) := by decide +kernel
theorem dMo_goes_50 : decode bMo_goes 50 = .ok (.dup2, 1) := by decide +kernel
theorem dMo_goes_51 : decode bMo_goes 51 = .ok (.iaload, 1) := by decide +kernel
theorem dMo_goes_52 : decode bMo_goes 52 = .ok (.iload_n 3, 1) := by decide +kernel
theorem dMo_goes_53 : decode bMo_goes 53 = .ok (.iadd, 1) := by decide +kernel
theorem dMo_goes_54 : decode bMo_goes 54 = .ok (.iastore, 1) := by decide +kernel
theorem dMo_goes_55 : decode bMo_goes 55 = .ok (.aload_n 1, 1) := by decide +kernel
theorem dMo_goes_56 : decode bMo_goes 56 = .ok (.iconst 0, 1) := by decide +kernel
theorem dMo_goes_57 : decode bMo_goes 57 = .ok (.iload_n 2, 1) := by decide +kernel
theorem dMo_goes_58 : decode bMo_goes 58 = .ok (.iadd, 1) := by decide +kernel
theorem dMo_goes_59 : decode bMo_goes 59 = .ok (.dup2, 1) := by decide +kernel
theorem dMo_goes_60 : decode bMo_goes 60 = .ok (.iaload, 1) := by decide +kernel
theorem dMo_goes_61 : decode bMo_goes 61 = .ok (.iload_n 3, 1) := by decide +kernel
theorem dMo_goes_62 : decode bMo_goes 62 = .ok (.aload_n 1, 1) := by decide +kernel
theorem dMo_goes_63 : decode bMo_goes 63 = .ok (.iconst 5, 1) := by decide +kernel
theorem dMo_goes_64 : decode bMo_goes 64 = .ok (.iload_n 2, 1) := by decide +kernel
theorem dMo_goes_65 : decode bMo_goes 65 = .ok (.iadd, 1) := by decide +kernel
theorem dMo_goes_66 : decode bMo_goes 66 = .ok (.iaload, 1) := by decide +kernel
theorem dMo_goes_67 : decode bMo_goes 67 = .ok (.iadd, 1) := by decide +kernel
theorem dMo_goes_68 : decode bMo_goes 68 = .ok (.iadd, 1) := by decide +kernel
theorem dMo_goes_69 : decode bMo_goes 69 = .ok (.iastore, 1) := by decide +kernel
theorem dMo_goes_70 : decode bMo_goes 70 = .ok (.aload_n 1, 1) := by decide +kernel
theorem dMo_goes_71 : decode bMo_goes 71 = .ok (.iconst 5, 1) := by decide +kernel
theorem dMo_goes_72 : decode bMo_goes 72 = .ok (.iload_n 2, 1) := by decide +kernel
theorem dMo_goes_73 : decode bMo_goes 73 = .ok (.iadd, 1) := by decide +kernel
theorem dMo_goes_74 : decode bMo_goes 74 = .ok (.iconst 0, 1) := by decide +kernel
theorem dMo_goes_75 : decode bMo_goes 75 = .ok (.iastore, 1) := by decide +kernel
theorem dMo_goes_76 : decode bMo_goes 76 = .ok (.aload_n 1, 1) := by decide +kernel
theorem dMo_goes_77 : decode bMo_goes 77 = .ok (.bipush 10, 2) := by decide +kernel
theorem dMo_goes_79 : decode bMo_goes 79 = .ok (.iload_n 2, 1) := by decide +kernel
theorem dMo_goes_80 : decode bMo_goes 80 = .ok (.iadd, 1) := by decide +kernel
theorem dMo_goes_81 : decode bMo_goes 81 = .ok (.iconst 0, 1) := by decide +kernel
theorem dMo_goes_82 : decode bMo_goes 82 = .ok (.iastore, 1) := by decide +kernel
theorem dMo_goes_83 : decode bMo_goes 83 = .ok (.iinc 2 1, 3) := by decide +kernel
theorem dMo_goes_86 : decode bMo_goes 86 = .ok (.goto (-84), 3) := by decide +kernel
theorem dMo_goes_89 : decode bMo_goes 89 = .ok (.aload_n 1, 1) := by decide +kernel
theorem dMo_goes_90 : decode bMo_goes 90 = .ok (.bipush 28, 2) := by decide +kernel
theorem dMo_goes_92 : decode bMo_goes 92 = .ok (.aload_n 0, 1) := by decide +kernel
theorem dMo_goes_93 : decode bMo_goes 93 = .ok (.aload_n 1, 1) := by decide +kernel
theorem dMo_goes_94 : decode bMo_goes 94 = .ok (.iconst 0, 1) := by decide +kernel
theorem dMo_goes_95 : decode bMo_goes 95 = .ok (.invokevirtual 305, 3) := by decide +kernel
theorem dMo_goes_98 : decode bMo_goes 98 = .ok (.iastore, 1) := by decide +kernel
theorem dMo_goes_99 : decode bMo_goes 99 = .ok (.aload_n 1, 1) := by decide +kernel
theorem dMo_goes_100 : decode bMo_goes 100 = .ok (.bipush 26, 2) := by decide +kernel
theorem dMo_goes_102 : decode bMo_goes 102 = .ok (.aload_n 1, 1) := by decide +kernel
theorem dMo_goes_103 : decode bMo_goes 103 = .ok (.bipush 28, 2) := by decide +kernel
theorem dMo_goes_105 : decode bMo_goes 105 = .ok (.iaload, 1) := by decide +kernel
theorem dMo_goes_106 : decode bMo_goes 106 = .ok (.aload_n 0, 1) := by decide +kernel
theorem dMo_goes_107 : decode bMo_goes 107 = .ok (.getfield 290, 3) := by decide +kernel
theorem dMo_goes_110 : decode bMo_goes 110 = .ok (.getfield 176, 3) := by decide +kernel
theorem dMo_goes_113 : decode bMo_goes 113 = .ok (.if_icmp .le 7, 3) := by decide +kernel
theorem dMo_goes_116 : decode bMo_goes 116 = .ok (.iconst 1, 1) := by decide +kernel
theorem dMo_goes_117 : decode bMo_goes 117 = .ok (.goto 4, 3) := by decide +kernel
theorem dMo_goes_120 : decode bMo_goes 120 = .ok (.iconst 0, 1) := by decide +kernel
theorem dMo_goes_121 : decode bMo_goes 121 = .ok (.iastore, 1) := by decide +kernel
theorem dMo_goes_122 : decode bMo_goes 122 = .ok (.aload_n 1, 1) := by decide +kernel
theorem dMo_goes_123 : decode bMo_goes 123 = .ok (.bipush 29, 2) := by decide +kernel
theorem dMo_goes_125 : decode bMo_goes 125 = .ok (.iconst 0, 1) := by decide +kernel
theorem dMo_goes_126 : decode bMo_goes 126 = .ok (.iastore, 1) := by decide +kernel
theorem dMo_goes_127 : decode bMo_goes 127 = .ok (.aload_n 1, 1) := by decide +kernel
theorem dMo_goes_128 : decode bMo_goes 128 = .ok (.bipush 30, 2) := by decide +kernel
theorem dMo_goes_130 : decode bMo_goes 130 = .ok (.iconst 0, 1) := by decide +kernel
theorem dMo_goes_131 : decode bMo_goes 131 = .ok (.iastore, 1) := by decide +kernel
theorem dMo_goes_132 : decode bMo_goes 132 = .ok (.aload_n 1, 1) := by decide +kernel
theorem dMo_goes_133 : decode bMo_goes 133 = .ok (.bipush 26, 2) := by decide +kernel
theorem dMo_goes_135 : decode bMo_goes 135 = .ok (.iaload, 1) := by decide +kernel
theorem dMo_goes_136 : decode bMo_goes 136 = .ok (.ifCond .ne 11, 3) := by decide +kernel
theorem dMo_goes_139 : decode bMo_goes 139 = .ok (.aload_n 0, 1) := by decide +kernel
theorem dMo_goes_140 : decode bMo_goes 140 = .ok (.aload_n 1, 1) := by decide +kernel
theorem dMo_goes_141 : decode bMo_goes 141 = .ok (.invokevirtual 309, 3) := by decide +kernel
theorem dMo_goes_144 : decode bMo_goes 144 = .ok (.goto 8, 3) := by decide +kernel
theorem dMo_goes_147 : decode bMo_goes 147 = .ok (.aload_n 0, 1) := by decide +kernel
theorem dMo_goes_148 : decode bMo_goes 148 = .ok (.aload_n 1, 1) := by decide +kernel
theorem dMo_goes_149 : decode bMo_goes 149 = .ok (.invokevirtual 313, 3) := by decide +kernel
theorem dMo_goes_152 : decode bMo_goes 152 = .ok (.aload_n 1, 1) := by decide +kernel
theorem dMo_goes_153 : decode bMo_goes 153 = .ok (.bipush 20, 2) := by decide +kernel
theorem dMo_goes_155 : decode bMo_goes 155 = .ok (.dup2, 1) := by decide +kernel
theorem dMo_goes_156 : decode bMo_goes 156 = .ok (.iaload, 1) := by decide +kernel
theorem dMo_goes_157 : decode bMo_goes 157 = .ok (.aload_n 0, 1) := by decide +kernel
theorem dMo_goes_158 : decode bMo_goes 158 = .ok (.aload_n 1, 1) := by decide +kernel
theorem dMo_goes_159 : decode bMo_goes 159 = .ok (.bipush 10, 2) := by decide +kernel
theorem dMo_goes_161 : decode bMo_goes 161 = .ok (.invokevirtual 305, 3) := by decide +kernel
theorem dMo_goes_164 : decode bMo_goes 164 = .ok (.iadd, 1) := by decide +kernel
theorem dMo_goes_165 : decode bMo_goes 165 = .ok (.iastore, 1) := by decide +kernel
theorem dMo_goes_166 : decode bMo_goes 166 = .ok (.aload_n 1, 1) := by decide +kernel
theorem dMo_goes_167 : decode bMo_goes 167 = .ok (.bipush 20, 2) := by decide +kernel
theorem dMo_goes_169 : decode bMo_goes 169 = .ok (.iaload, 1) := by decide +kernel
theorem dMo_goes_170 : decode bMo_goes 170 = .ok (.aload_n 0, 1) := by decide +kernel
theorem dMo_goes_171 : decode bMo_goes 171 = .ok (.getfield 290, 3) := by decide +kernel
theorem dMo_goes_174 : decode bMo_goes 174 = .ok (.getfield 186, 3) := by decide +kernel
theorem dMo_goes_177 : decode bMo_goes 177 = .ok (.if_icmp .le 18, 3) := by decide +kernel
theorem dMo_goes_180 : decode bMo_goes 180 = .ok (.aload_n 1, 1) := by decide +kernel
theorem dMo_goes_181 : decode bMo_goes 181 = .ok (.bipush 20, 2) := by decide +kernel
theorem dMo_goes_183 : decode bMo_goes 183 = .ok (.iaload, 1) := by decide +kernel
theorem dMo_goes_184 : decode bMo_goes 184 = .ok (.aload_n 0, 1) := by decide +kernel
theorem dMo_goes_185 : decode bMo_goes 185 = .ok (.getfield 290, 3) := by decide +kernel
theorem dMo_goes_188 : decode bMo_goes 188 = .ok (.getfield 186, 3) := by decide +kernel
theorem dMo_goes_191 : decode bMo_goes 191 = .ok (.isub, 1) := by decide +kernel
theorem dMo_goes_192 : decode bMo_goes 192 = .ok (.goto 4, 3) := by decide +kernel
theorem dMo_goes_195 : decode bMo_goes 195 = .ok (.iconst 0, 1) := by decide +kernel
theorem dMo_goes_196 : decode bMo_goes 196 = .ok (.istore_n 2, 1) := by decide +kernel
theorem dMo_goes_197 : decode bMo_goes 197 = .ok (.aload_n 1, 1) := by decide +kernel
theorem dMo_goes_198 : decode bMo_goes 198 = .ok (.bipush 21, 2) := by decide +kernel
theorem dMo_goes_200 : decode bMo_goes 200 = .ok (.dup2, 1) := by decide +kernel
theorem dMo_goes_201 : decode bMo_goes 201 = .ok (.iaload, 1) := by decide +kernel
theorem dMo_goes_202 : decode bMo_goes 202 = .ok (.iload_n 2, 1) := by decide +kernel
theorem dMo_goes_203 : decode bMo_goes 203 = .ok (.iadd, 1) := by decide +kernel
theorem dMo_goes_204 : decode bMo_goes 204 = .ok (.iastore, 1) := by decide +kernel
theorem dMo_goes_205 : decode bMo_goes 205 = .ok (.aload_n 1, 1) := by decide +kernel
theorem dMo_goes_206 : decode bMo_goes 206 = .ok (.bipush 20, 2) := by decide +kernel
theorem dMo_goes_208 : decode bMo_goes 208 = .ok (.dup2, 1) := by decide +kernel
theorem dMo_goes_209 : decode bMo_goes 209 = .ok (.iaload, 1) := by decide +kernel
theorem dMo_goes_210 : decode bMo_goes 210 = .ok (.iload_n 2, 1) := by decide +kernel
theorem dMo_goes_211 : decode bMo_goes 211 = .ok (.isub, 1) := by decide +kernel
theorem dMo_goes_212 : decode bMo_goes 212 = .ok (.iastore, 1) := by decide +kernel
theorem dMo_goes_213 : decode bMo_goes 213 = .ok (.aload_n 1, 1) := by decide +kernel
theorem dMo_goes_214 : decode bMo_goes 214 = .ok (.bipush 20, 2) := by decide +kernel
theorem dMo_goes_216 : decode bMo_goes 216 = .ok (.iaload, 1) := by decide +kernel
theorem dMo_goes_217 : decode bMo_goes 217 = .ok (.aload_n 0, 1) := by decide +kernel
theorem dMo_goes_218 : decode bMo_goes 218 = .ok (.getfield 290, 3) := by decide +kernel
theorem dMo_goes_221 : decode bMo_goes 221 = .ok (.getfield 252, 3) := by decide +kernel
theorem dMo_goes_224 : decode bMo_goes 224 = .ok (.if_icmp .ge 10, 3) := by decide +kernel
theorem dMo_goes_227 : decode bMo_goes 227 = .ok (.aload_n 1, 1) := by decide +kernel
theorem dMo_goes_228 : decode bMo_goes 228 = .ok (.bipush 20, 2) := by decide +kernel
theorem dMo_goes_230 : decode bMo_goes 230 = .ok (.iaload, 1) := by decide +kernel
theorem dMo_goes_231 : decode bMo_goes 231 = .ok (.goto 10, 3) := by decide +kernel
theorem dMo_goes_234 : decode bMo_goes 234 = .ok (.aload_n 0, 1) := by decide +kernel
theorem dMo_goes_235 : decode bMo_goes 235 = .ok (.getfield 290, 3) := by decide +kernel
theorem dMo_goes_238 : decode bMo_goes 238 = .ok (.getfield 252, 3) := by decide +kernel
theorem dMo_goes_241 : decode bMo_goes 241 = .ok (.istore_n 3, 1) := by decide +kernel
theorem dMo_goes_242 : decode bMo_goes 242 = .ok (.aload_n 1, 1) := by decide +kernel
theorem dMo_goes_243 : decode bMo_goes 243 = .ok (.bipush 20, 2) := by decide +kernel
theorem dMo_goes_245 : decode bMo_goes 245 = .ok (.dup2, 1) := by decide +kernel
theorem dMo_goes_246 : decode bMo_goes 246 = .ok (.iaload, 1) := by decide +kernel
theorem dMo_goes_247 : decode bMo_goes 247 = .ok (.iload_n 3, 1) := by decide +kernel
theorem dMo_goes_248 : decode bMo_goes 248 = .ok (.isub, 1) := by decide +kernel
theorem dMo_goes_249 : decode bMo_goes 249 = .ok (.iastore, 1) := by decide +kernel
theorem dMo_goes_250 : decode bMo_goes 250 = .ok (.aload_n 1, 1) := by decide +kernel
theorem dMo_goes_251 : decode bMo_goes 251 = .ok (.bipush 22, 2) := by decide +kernel
theorem dMo_goes_253 : decode bMo_goes 253 = .ok (.dup2, 1) := by decide +kernel
theorem dMo_goes_254 : decode bMo_goes 254 = .ok (.iaload, 1) := by decide +kernel
theorem dMo_goes_255 : decode bMo_goes 255 = .ok (.iload_n 3, 1) := by decide +kernel
theorem dMo_goes_256 : decode bMo_goes 256 = .ok (.iadd, 1) := by decide +kernel
theorem dMo_goes_257 : decode bMo_goes 257 = .ok (.iastore, 1) := by decide +kernel
theorem dMo_goes_258 : decode bMo_goes 258 = .ok (.aload_n 1, 1) := by decide +kernel
theorem dMo_goes_259 : decode bMo_goes 259 = .ok (.bipush 23, 2) := by decide +kernel
theorem dMo_goes_261 : decode bMo_goes 261 = .ok (.dup2, 1) := by decide +kernel
theorem dMo_goes_262 : decode bMo_goes 262 = .ok (.iaload, 1) := by decide +kernel
theorem dMo_goes_263 : decode bMo_goes 263 = .ok (.aload_n 0, 1) := by decide +kernel
theorem dMo_goes_264 : decode bMo_goes 264 = .ok (.getfield 290, 3) := by decide +kernel
theorem dMo_goes_267 : decode bMo_goes 267 = .ok (.getfield 252, 3) := by decide +kernel
theorem dMo_goes_270 : decode bMo_goes 270 = .ok (.iload_n 3, 1) := by decide +kernel
theorem dMo_goes_271 : decode bMo_goes 271 = .ok (.isub, 1) := by decide +kernel
theorem dMo_goes_272 : decode bMo_goes 272 = .ok (.iadd, 1) := by decide +kernel
theorem dMo_goes_273 : decode bMo_goes 273 = .ok (.iastore, 1) := by decide +kernel
theorem dMo_goes_274 : decode bMo_goes 274 = .ok (.aload_n 0, 1) := by decide +kernel
theorem dMo_goes_275 : decode bMo_goes 275 = .ok (.getfield 290, 3) := by decide +kernel
theorem dMo_goes_278 : decode bMo_goes 278 = .ok (.getfield 233, 3) := by decide +kernel
theorem dMo_goes_281 : decode bMo_goes 281 = .ok (.aload_n 0, 1) := by decide +kernel
theorem dMo_goes_282 : decode bMo_goes 282 = .ok (.getfield 290, 3) := by decide +kernel
theorem dMo_goes_285 : decode bMo_goes 285 = .ok (.getfield 233, 3) := by decide +kernel
theorem dMo_goes_288 : decode bMo_goes 288 = .ok (.aload_n 1, 1) := by decide +kernel
theorem dMo_goes_289 : decode bMo_goes 289 = .ok (.bipush 28, 2) := by decide +kernel
theorem dMo_goes_291 : decode bMo_goes 291 = .ok (.iaload, 1) := by decide +kernel
theorem dMo_goes_292 : decode bMo_goes 292 = .ok (.imul, 1) := by decide +kernel
theorem dMo_goes_293 : decode bMo_goes 293 = .ok (.aload_n 0, 1) := by decide +kernel
theorem dMo_goes_294 : decode bMo_goes 294 = .ok (.getfield 290, 3) := by decide +kernel
theorem dMo_goes_297 : decode bMo_goes 297 = .ok (.getfield 176, 3) := by decide +kernel
theorem dMo_goes_300 : decode bMo_goes 300 = .ok (.idiv, 1) := by decide +kernel
theorem dMo_goes_301 : decode bMo_goes 301 = .ok (.isub, 1) := by decide +kernel
theorem dMo_goes_302 : decode bMo_goes 302 = .ok (.istore 4, 2) := by decide +kernel
theorem dMo_goes_304 : decode bMo_goes 304 = .ok (.aload_n 1, 1) := by decide +kernel
theorem dMo_goes_305 : decode bMo_goes 305 = .ok (.bipush 31, 2) := by decide +kernel
theorem dMo_goes_307 : decode bMo_goes 307 = .ok (.iload 4, 2) := by decide +kernel
theorem dMo_goes_309 : decode bMo_goes 309 = .ok (.ifCond .ge 7, 3) := by decide +kernel
theorem dMo_goes_312 : decode bMo_goes 312 = .ok (.iconst 0, 1) := by decide +kernel
theorem dMo_goes_313 : decode bMo_goes 313 = .ok (.goto 5, 3) := by decide +kernel
theorem dMo_goes_316 : decode bMo_goes 316 = .ok (.iload 4, 2) := by decide +kernel
theorem dMo_goes_318 : decode bMo_goes 318 = .ok (.iastore, 1) := by decide +kernel
theorem dMo_goes_319 : decode bMo_goes 319 = .ok (.aload_n 1, 1) := by decide +kernel
theorem dMo_goes_320 : decode bMo_goes 320 = .ok (.bipush 32, 2) := by decide +kernel
theorem dMo_goes_322 : decode bMo_goes 322 = .ok (.dup2, 1) := by decide +kernel
theorem dMo_goes_323 : decode bMo_goes 323 = .ok (.iaload, 1) := by decide +kernel
theorem dMo_goes_324 : decode bMo_goes 324 = .ok (.aload_n 1, 1) := by decide +kernel
theorem dMo_goes_325 : decode bMo_goes 325 = .ok (.bipush 30, 2) := by decide +kernel
theorem dMo_goes_327 : decode bMo_goes 327 = .ok (.iaload, 1) := by decide +kernel
theorem dMo_goes_328 : decode bMo_goes 328 = .ok (.aload_n 0, 1) := by decide +kernel
theorem dMo_goes_329 : decode bMo_goes 329 = .ok (.getfield 290, 3) := by decide +kernel
theorem dMo_goes_332 : decode bMo_goes 332 = .ok (.getfield 254, 3) := by decide +kernel
theorem dMo_goes_335 : decode bMo_goes 335 = .ok (.aload_n 1, 1) := by decide +kernel
theorem dMo_goes_336 : decode bMo_goes 336 = .ok (.bipush 27, 2) := by decide +kernel
theorem dMo_goes_338 : decode bMo_goes 338 = .ok (.iaload, 1) := by decide +kernel
theorem dMo_goes_339 : decode bMo_goes 339 = .ok (.aload_n 0, 1) := by decide +kernel
theorem dMo_goes_340 : decode bMo_goes 340 = .ok (.getfield 290, 3) := by decide +kernel
theorem dMo_goes_343 : decode bMo_goes 343 = .ok (.getfield 188, 3) := by decide +kernel
theorem dMo_goes_346 : decode bMo_goes 346 = .ok (.irem, 1) := by decide +kernel
theorem dMo_goes_347 : decode bMo_goes 347 = .ok (.iaload, 1) := by decide +kernel
theorem dMo_goes_348 : decode bMo_goes 348 = .ok (.imul, 1) := by decide +kernel
theorem dMo_goes_349 : decode bMo_goes 349 = .ok (.iadd, 1) := by decide +kernel
theorem dMo_goes_350 : decode bMo_goes 350 = .ok (.iastore, 1) := by decide +kernel
theorem dMo_goes_351 : decode bMo_goes 351 = .ok (.aload_n 1, 1) := by decide +kernel
theorem dMo_goes_352 : decode bMo_goes 352 = .ok (.bipush 24, 2) := by decide +kernel
theorem dMo_goes_354 : decode bMo_goes 354 = .ok (.dup2, 1) := by decide +kernel
theorem dMo_goes_355 : decode bMo_goes 355 = .ok (.iaload, 1) := by decide +kernel
theorem dMo_goes_356 : decode bMo_goes 356 = .ok (.iconst 1, 1) := by decide +kernel
theorem dMo_goes_357 : decode bMo_goes 357 = .ok (.iadd, 1) := by decide +kernel
theorem dMo_goes_358 : decode bMo_goes 358 = .ok (.iastore, 1) := by decide +kernel
theorem dMo_goes_359 : decode bMo_goes 359 = .ok (.aload_n 1, 1) := by decide +kernel
theorem dMo_goes_360 : decode bMo_goes 360 = .ok (.bipush 27, 2) := by decide +kernel
theorem dMo_goes_362 : decode bMo_goes 362 = .ok (.dup2, 1) := by decide +kernel
theorem dMo_goes_363 : decode bMo_goes 363 = .ok (.iaload, 1) := by decide +kernel
theorem dMo_goes_364 : decode bMo_goes 364 = .ok (.iconst 1, 1) := by decide +kernel
theorem dMo_goes_365 : decode bMo_goes 365 = .ok (.iadd, 1) := by decide +kernel
theorem dMo_goes_366 : decode bMo_goes 366 = .ok (.iastore, 1) := by decide +kernel
theorem dMo_goes_367 : decode bMo_goes 367 = .ok (.return_, 1) := by decide +kernel
theorem dMo_digs_0 : decode bMo_digs 0 = .ok (.iconst 0, 1) := by decide +kernel
theorem dMo_digs_1 : decode bMo_digs 1 = .ok (.istore_n 2, 1) := by decide +kernel
theorem dMo_digs_2 : decode bMo_digs 2 = .ok (.iload_n 2, 1) := by decide +kernel
theorem dMo_digs_3 : decode bMo_digs 3 = .ok (.aload_n 0, 1) := by decide +kernel
theorem dMo_digs_4 : decode bMo_digs 4 = .ok (.getfield 290, 3) := by decide +kernel
theorem dMo_digs_7 : decode bMo_digs 7 = .ok (.getfield 191, 3) := by decide +kernel
theorem dMo_digs_10 : decode bMo_digs 10 = .ok (.if_icmp .ge 63, 3) := by decide +kernel
theorem dMo_digs_13 : decode bMo_digs 13 = .ok (.aload_n 1, 1) := by decide +kernel
theorem dMo_digs_14 : decode bMo_digs 14 = .ok (.iconst 0, 1) := by decide +kernel
theorem dMo_digs_15 : decode bMo_digs 15 = .ok (.iload_n 2, 1) := by decide +kernel
theorem dMo_digs_16 : decode bMo_digs 16 = .ok (.iadd, 1) := by decide +kernel
theorem dMo_digs_17 : decode bMo_digs 17 = .ok (.iaload, 1) := by decide +kernel
theorem dMo_digs_18 : decode bMo_digs 18 = .ok (.bipush 10, 2) := by decide +kernel
theorem dMo_digs_20 : decode bMo_digs 20 = .ok (.idiv, 1) := by decide +kernel
theorem dMo_digs_21 : decode bMo_digs 21 = .ok (.iconst 1, 1) := by decide +kernel
theorem dMo_digs_22 : decode bMo_digs 22 = .ok (.iadd, 1) := by decide +kernel
theorem dMo_digs_23 : decode bMo_digs 23 = .ok (.aload_n 1, 1) := by decide +kernel
theorem dMo_digs_24 : decode bMo_digs 24 = .ok (.iconst 0, 1) := by decide +kernel
theorem dMo_digs_25 : decode bMo_digs 25 = .ok (.iload_n 2, 1) := by decide +kernel
theorem dMo_digs_26 : decode bMo_digs 26 = .ok (.iadd, 1) := by decide +kernel
theorem dMo_digs_27 : decode bMo_digs 27 = .ok (.iaload, 1) := by decide +kernel
theorem dMo_digs_28 : decode bMo_digs 28 = .ok (.if_icmp .le 11, 3) := by decide +kernel
theorem dMo_digs_31 : decode bMo_digs 31 = .ok (.aload_n 1, 1) := by decide +kernel
theorem dMo_digs_32 : decode bMo_digs 32 = .ok (.iconst 0, 1) := by decide +kernel
theorem dMo_digs_33 : decode bMo_digs 33 = .ok (.iload_n 2, 1) := by decide +kernel
theorem dMo_digs_34 : decode bMo_digs 34 = .ok (.iadd, 1) := by decide +kernel
theorem dMo_digs_35 : decode bMo_digs 35 = .ok (.iaload, 1) := by decide +kernel
theorem dMo_digs_36 : decode bMo_digs 36 = .ok (.goto 13, 3) := by decide +kernel
theorem dMo_digs_39 : decode bMo_digs 39 = .ok (.aload_n 1, 1) := by decide +kernel
theorem dMo_digs_40 : decode bMo_digs 40 = .ok (.iconst 0, 1) := by decide +kernel
theorem dMo_digs_41 : decode bMo_digs 41 = .ok (.iload_n 2, 1) := by decide +kernel
theorem dMo_digs_42 : decode bMo_digs 42 = .ok (.iadd, 1) := by decide +kernel
theorem dMo_digs_43 : decode bMo_digs 43 = .ok (.iaload, 1) := by decide +kernel
theorem dMo_digs_44 : decode bMo_digs 44 = .ok (.bipush 10, 2) := by decide +kernel
theorem dMo_digs_46 : decode bMo_digs 46 = .ok (.idiv, 1) := by decide +kernel
theorem dMo_digs_47 : decode bMo_digs 47 = .ok (.iconst 1, 1) := by decide +kernel
theorem dMo_digs_48 : decode bMo_digs 48 = .ok (.iadd, 1) := by decide +kernel
theorem dMo_digs_49 : decode bMo_digs 49 = .ok (.istore_n 3, 1) := by decide +kernel
theorem dMo_digs_50 : decode bMo_digs 50 = .ok (.aload_n 1, 1) := by decide +kernel
theorem dMo_digs_51 : decode bMo_digs 51 = .ok (.iconst 0, 1) := by decide +kernel
theorem dMo_digs_52 : decode bMo_digs 52 = .ok (.iload_n 2, 1) := by decide +kernel
theorem dMo_digs_53 : decode bMo_digs 53 = .ok (.iadd, 1) := by decide +kernel
theorem dMo_digs_54 : decode bMo_digs 54 = .ok (.dup2, 1) := by decide +kernel
theorem dMo_digs_55 : decode bMo_digs 55 = .ok (.iaload, 1) := by decide +kernel
theorem dMo_digs_56 : decode bMo_digs 56 = .ok (.iload_n 3, 1) := by decide +kernel
theorem dMo_digs_57 : decode bMo_digs 57 = .ok (.isub, 1) := by decide +kernel
theorem dMo_digs_58 : decode bMo_digs 58 = .ok (.iastore, 1) := by decide +kernel
theorem dMo_digs_59 : decode bMo_digs 59 = .ok (.aload_n 1, 1) := by decide +kernel
theorem dMo_digs_60 : decode bMo_digs 60 = .ok (.bipush 21, 2) := by decide +kernel
theorem dMo_digs_62 : decode bMo_digs 62 = .ok (.dup2, 1) := by decide +kernel
theorem dMo_digs_63 : decode bMo_digs 63 = .ok (.iaload, 1) := by decide +kernel
theorem dMo_digs_64 : decode bMo_digs 64 = .ok (.iload_n 3, 1) := by decide +kernel
theorem dMo_digs_65 : decode bMo_digs 65 = .ok (.iadd, 1) := by decide +kernel
theorem dMo_digs_66 : decode bMo_digs 66 = .ok (.iastore, 1) := by decide +kernel
theorem dMo_digs_67 : decode bMo_digs 67 = .ok (.iinc 2 1, 3) := by decide +kernel
theorem dMo_digs_70 : decode bMo_digs 70 = .ok (.goto (-68), 3) := by decide +kernel
theorem dMo_digs_73 : decode bMo_digs 73 = .ok (.return_, 1) := by decide +kernel
theorem dMo_effectOf_0 : decode bMo_effectOf 0 = .ok (.bipush 100, 2) := by decide +kernel
theorem dMo_effectOf_2 : decode bMo_effectOf 2 = .ok (.iload_n 1, 1) := by decide +kernel
theorem dMo_effectOf_3 : decode bMo_effectOf 3 = .ok (.imul, 1) := by decide +kernel
theorem dMo_effectOf_4 : decode bMo_effectOf 4 = .ok (.aload_n 0, 1) := by decide +kernel
theorem dMo_effectOf_5 : decode bMo_effectOf 5 = .ok (.getfield 290, 3) := by decide +kernel
theorem dMo_effectOf_8 : decode bMo_effectOf 8 = .ok (.getfield 176, 3) := by decide +kernel
theorem dMo_effectOf_11 : decode bMo_effectOf 11 = .ok (.idiv, 1) := by decide +kernel
theorem dMo_effectOf_12 : decode bMo_effectOf 12 = .ok (.bipush 50, 2) := by decide +kernel
theorem dMo_effectOf_14 : decode bMo_effectOf 14 = .ok (.isub, 1) := by decide +kernel
theorem dMo_effectOf_15 : decode bMo_effectOf 15 = .ok (.istore 4, 2) := by decide +kernel
theorem dMo_effectOf_17 : decode bMo_effectOf 17 = .ok (.aload_n 0, 1) := by decide +kernel
theorem dMo_effectOf_18 : decode bMo_effectOf 18 = .ok (.getfield 290, 3) := by decide +kernel
theorem dMo_effectOf_21 : decode bMo_effectOf 21 = .ok (.getfield 183, 3) := by decide +kernel
theorem dMo_effectOf_24 : decode bMo_effectOf 24 = .ok (.iconst 2, 1) := by decide +kernel
theorem dMo_effectOf_25 : decode bMo_effectOf 25 = .ok (.idiv, 1) := by decide +kernel
theorem dMo_effectOf_26 : decode bMo_effectOf 26 = .ok (.istore 5, 2) := by decide +kernel
theorem dMo_effectOf_28 : decode bMo_effectOf 28 = .ok (.aload_n 0, 1) := by decide +kernel
theorem dMo_effectOf_29 : decode bMo_effectOf 29 = .ok (.getfield 290, 3) := by decide +kernel
theorem dMo_effectOf_32 : decode bMo_effectOf 32 = .ok (.getfield 183, 3) := by decide +kernel
theorem dMo_effectOf_35 : decode bMo_effectOf 35 = .ok (.iload_n 2, 1) := by decide +kernel
theorem dMo_effectOf_36 : decode bMo_effectOf 36 = .ok (.isub, 1) := by decide +kernel
theorem dMo_effectOf_37 : decode bMo_effectOf 37 = .ok (.iload 5, 2) := by decide +kernel
theorem dMo_effectOf_39 : decode bMo_effectOf 39 = .ok (.if_icmp .ge 8, 3) := by decide +kernel
theorem dMo_effectOf_42 : decode bMo_effectOf 42 = .ok (.iload 5, 2) := by decide +kernel
theorem dMo_effectOf_44 : decode bMo_effectOf 44 = .ok (.goto 12, 3) := by decide +kernel
theorem dMo_effectOf_47 : decode bMo_effectOf 47 = .ok (.aload_n 0, 1) := by decide +kernel
theorem dMo_effectOf_48 : decode bMo_effectOf 48 = .ok (.getfield 290, 3) := by decide +kernel
theorem dMo_effectOf_51 : decode bMo_effectOf 51 = .ok (.getfield 183, 3) := by decide +kernel
theorem dMo_effectOf_54 : decode bMo_effectOf 54 = .ok (.iload_n 2, 1) := by decide +kernel
theorem dMo_effectOf_55 : decode bMo_effectOf 55 = .ok (.isub, 1) := by decide +kernel
theorem dMo_effectOf_56 : decode bMo_effectOf 56 = .ok (.istore 6, 2) := by decide +kernel
theorem dMo_effectOf_58 : decode bMo_effectOf 58 = .ok (.bipush 100, 2) := by decide +kernel
theorem dMo_effectOf_60 : decode bMo_effectOf 60 = .ok (.iload 4, 2) := by decide +kernel
theorem dMo_effectOf_62 : decode bMo_effectOf 62 = .ok (.ifCond .ge 9, 3) := by decide +kernel
theorem dMo_effectOf_65 : decode bMo_effectOf 65 = .ok (.iload 4, 2) := by decide +kernel
theorem dMo_effectOf_67 : decode bMo_effectOf 67 = .ok (.ineg, 1) := by decide +kernel
theorem dMo_effectOf_68 : decode bMo_effectOf 68 = .ok (.goto 5, 3) := by decide +kernel
theorem dMo_effectOf_71 : decode bMo_effectOf 71 = .ok (.iload 4, 2) := by decide +kernel
theorem dMo_effectOf_73 : decode bMo_effectOf 73 = .ok (.isub, 1) := by decide +kernel
theorem dMo_effectOf_74 : decode bMo_effectOf 74 = .ok (.iload 6, 2) := by decide +kernel
theorem dMo_effectOf_76 : decode bMo_effectOf 76 = .ok (.imul, 1) := by decide +kernel
theorem dMo_effectOf_77 : decode bMo_effectOf 77 = .ok (.aload_n 0, 1) := by decide +kernel
theorem dMo_effectOf_78 : decode bMo_effectOf 78 = .ok (.getfield 290, 3) := by decide +kernel
theorem dMo_effectOf_81 : decode bMo_effectOf 81 = .ok (.getfield 183, 3) := by decide +kernel
theorem dMo_effectOf_84 : decode bMo_effectOf 84 = .ok (.idiv, 1) := by decide +kernel
theorem dMo_effectOf_85 : decode bMo_effectOf 85 = .ok (.istore 7, 2) := by decide +kernel
theorem dMo_effectOf_87 : decode bMo_effectOf 87 = .ok (.bipush 10, 2) := by decide +kernel
theorem dMo_effectOf_89 : decode bMo_effectOf 89 = .ok (.iload 7, 2) := by decide +kernel
theorem dMo_effectOf_91 : decode bMo_effectOf 91 = .ok (.imul, 1) := by decide +kernel
theorem dMo_effectOf_92 : decode bMo_effectOf 92 = .ok (.bipush 9, 2) := by decide +kernel
theorem dMo_effectOf_94 : decode bMo_effectOf 94 = .ok (.aload_n 0, 1) := by decide +kernel
theorem dMo_effectOf_95 : decode bMo_effectOf 95 = .ok (.getfield 290, 3) := by decide +kernel
theorem dMo_effectOf_98 : decode bMo_effectOf 98 = .ok (.getfield 276, 3) := by decide +kernel
theorem dMo_effectOf_101 : decode bMo_effectOf 101 = .ok (.iload_n 3, 1) := by decide +kernel
theorem dMo_effectOf_102 : decode bMo_effectOf 102 = .ok (.iaload, 1) := by decide +kernel
theorem dMo_effectOf_103 : decode bMo_effectOf 103 = .ok (.iadd, 1) := by decide +kernel
theorem dMo_effectOf_104 : decode bMo_effectOf 104 = .ok (.idiv, 1) := by decide +kernel
theorem dMo_effectOf_105 : decode bMo_effectOf 105 = .ok (.ireturn, 1) := by decide +kernel
theorem dMo_passes_0 : decode bMo_passes 0 = .ok (.iload_n 1, 1) := by decide +kernel
theorem dMo_passes_1 : decode bMo_passes 1 = .ok (.aload_n 0, 1) := by decide +kernel
theorem dMo_passes_2 : decode bMo_passes 2 = .ok (.getfield 290, 3) := by decide +kernel
theorem dMo_passes_5 : decode bMo_passes 5 = .ok (.getfield 181, 3) := by decide +kernel
theorem dMo_passes_8 : decode bMo_passes 8 = .ok (.if_icmp .lt 6, 3) := by decide +kernel
theorem dMo_passes_11 : decode bMo_passes 11 = .ok (.bipush 100, 2) := by decide +kernel
theorem dMo_passes_13 : decode bMo_passes 13 = .ok (.ireturn, 1) := by decide +kernel
theorem dMo_passes_14 : decode bMo_passes 14 = .ok (.iload_n 2, 1) := by decide +kernel
theorem dMo_passes_15 : decode bMo_passes 15 = .ok (.aload_n 0, 1) := by decide +kernel
theorem dMo_passes_16 : decode bMo_passes 16 = .ok (.getfield 290, 3) := by decide +kernel
theorem dMo_passes_19 : decode bMo_passes 19 = .ok (.getfield 248, 3) := by decide +kernel
theorem dMo_passes_22 : decode bMo_passes 22 = .ok (.imul, 1) := by decide +kernel
theorem dMo_passes_23 : decode bMo_passes 23 = .ok (.bipush 100, 2) := by decide +kernel
theorem dMo_passes_25 : decode bMo_passes 25 = .ok (.if_icmp .le 8, 3) := by decide +kernel
theorem dMo_passes_28 : decode bMo_passes 28 = .ok (.bipush 100, 2) := by decide +kernel
theorem dMo_passes_30 : decode bMo_passes 30 = .ok (.goto 12, 3) := by decide +kernel
theorem dMo_passes_33 : decode bMo_passes 33 = .ok (.iload_n 2, 1) := by decide +kernel
theorem dMo_passes_34 : decode bMo_passes 34 = .ok (.aload_n 0, 1) := by decide +kernel
theorem dMo_passes_35 : decode bMo_passes 35 = .ok (.getfield 290, 3) := by decide +kernel
theorem dMo_passes_38 : decode bMo_passes 38 = .ok (.getfield 248, 3) := by decide +kernel
theorem dMo_passes_41 : decode bMo_passes 41 = .ok (.imul, 1) := by decide +kernel
theorem dMo_passes_42 : decode bMo_passes 42 = .ok (.ireturn, 1) := by decide +kernel
theorem dMo_grinds_0 : decode bMo_grinds 0 = .ok (.aload_n 1, 1) := by decide +kernel
theorem dMo_grinds_1 : decode bMo_grinds 1 = .ok (.bipush 29, 2) := by decide +kernel
theorem dMo_grinds_3 : decode bMo_grinds 3 = .ok (.aload_n 0, 1) := by decide +kernel
theorem dMo_grinds_4 : decode bMo_grinds 4 = .ok (.aload_n 1, 1) := by decide +kernel
theorem dMo_grinds_5 : decode bMo_grinds 5 = .ok (.bipush 28, 2) := by decide +kernel
theorem dMo_grinds_7 : decode bMo_grinds 7 = .ok (.iaload, 1) := by decide +kernel
theorem dMo_grinds_8 : decode bMo_grinds 8 = .ok (.aload_n 1, 1) := by decide +kernel
theorem dMo_grinds_9 : decode bMo_grinds 9 = .ok (.bipush 24, 2) := by decide +kernel
theorem dMo_grinds_11 : decode bMo_grinds 11 = .ok (.iaload, 1) := by decide +kernel
theorem dMo_grinds_12 : decode bMo_grinds 12 = .ok (.aload_n 1, 1) := by decide +kernel
theorem dMo_grinds_13 : decode bMo_grinds 13 = .ok (.bipush 36, 2) := by decide +kernel
theorem dMo_grinds_15 : decode bMo_grinds 15 = .ok (.iaload, 1) := by decide +kernel
theorem dMo_grinds_16 : decode bMo_grinds 16 = .ok (.invokevirtual 316, 3) := by decide +kernel
theorem dMo_grinds_19 : decode bMo_grinds 19 = .ok (.iastore, 1) := by decide +kernel
theorem dMo_grinds_20 : decode bMo_grinds 20 = .ok (.aload_n 1, 1) := by decide +kernel
theorem dMo_grinds_21 : decode bMo_grinds 21 = .ok (.bipush 30, 2) := by decide +kernel
theorem dMo_grinds_23 : decode bMo_grinds 23 = .ok (.aload_n 1, 1) := by decide +kernel
theorem dMo_grinds_24 : decode bMo_grinds 24 = .ok (.bipush 28, 2) := by decide +kernel
theorem dMo_grinds_26 : decode bMo_grinds 26 = .ok (.iaload, 1) := by decide +kernel
theorem dMo_grinds_27 : decode bMo_grinds 27 = .ok (.aload_n 1, 1) := by decide +kernel
theorem dMo_grinds_28 : decode bMo_grinds 28 = .ok (.bipush 29, 2) := by decide +kernel
theorem dMo_grinds_30 : decode bMo_grinds 30 = .ok (.iaload, 1) := by decide +kernel
theorem dMo_grinds_31 : decode bMo_grinds 31 = .ok (.imul, 1) := by decide +kernel
theorem dMo_grinds_32 : decode bMo_grinds 32 = .ok (.bipush 100, 2) := by decide +kernel
theorem dMo_grinds_34 : decode bMo_grinds 34 = .ok (.idiv, 1) := by decide +kernel
theorem dMo_grinds_35 : decode bMo_grinds 35 = .ok (.iastore, 1) := by decide +kernel
theorem dMo_grinds_36 : decode bMo_grinds 36 = .ok (.aload_n 0, 1) := by decide +kernel
theorem dMo_grinds_37 : decode bMo_grinds 37 = .ok (.getfield 290, 3) := by decide +kernel
theorem dMo_grinds_40 : decode bMo_grinds 40 = .ok (.getfield 191, 3) := by decide +kernel
theorem dMo_grinds_43 : decode bMo_grinds 43 = .ok (.iconst 2, 1) := by decide +kernel
theorem dMo_grinds_44 : decode bMo_grinds 44 = .ok (.isub, 1) := by decide +kernel
theorem dMo_grinds_45 : decode bMo_grinds 45 = .ok (.istore_n 2, 1) := by decide +kernel
theorem dMo_grinds_46 : decode bMo_grinds 46 = .ok (.iload_n 2, 1) := by decide +kernel
theorem dMo_grinds_47 : decode bMo_grinds 47 = .ok (.ifCond .lt 104, 3) := by decide +kernel
theorem dMo_grinds_50 : decode bMo_grinds 50 = .ok (.aload_n 1, 1) := by decide +kernel
theorem dMo_grinds_51 : decode bMo_grinds 51 = .ok (.iconst 0, 1) := by decide +kernel
theorem dMo_grinds_52 : decode bMo_grinds 52 = .ok (.iload_n 2, 1) := by decide +kernel
theorem dMo_grinds_53 : decode bMo_grinds 53 = .ok (.iadd, 1) := by decide +kernel
theorem dMo_grinds_54 : decode bMo_grinds 54 = .ok (.iaload, 1) := by decide +kernel
theorem dMo_grinds_55 : decode bMo_grinds 55 = .ok (.aload_n 0, 1) := by decide +kernel
theorem dMo_grinds_56 : decode bMo_grinds 56 = .ok (.getfield 290, 3) := by decide +kernel
theorem dMo_grinds_59 : decode bMo_grinds 59 = .ok (.getfield 267, 3) := by decide +kernel
theorem dMo_grinds_62 : decode bMo_grinds 62 = .ok (.iload_n 2, 1) := by decide +kernel
theorem dMo_grinds_63 : decode bMo_grinds 63 = .ok (.iaload, 1) := by decide +kernel
theorem dMo_grinds_64 : decode bMo_grinds 64 = .ok (.imul, 1) := by decide +kernel
theorem dMo_grinds_65 : decode bMo_grinds 65 = .ok (.aload_n 1, 1) := by decide +kernel
theorem dMo_grinds_66 : decode bMo_grinds 66 = .ok (.bipush 29, 2) := by decide +kernel
theorem dMo_grinds_68 : decode bMo_grinds 68 = .ok (.iaload, 1) := by decide +kernel
theorem dMo_grinds_69 : decode bMo_grinds 69 = .ok (.imul, 1) := by decide +kernel
theorem dMo_grinds_70 : decode bMo_grinds 70 = .ok (.sipush 10000, 3) := by decide +kernel
theorem dMo_grinds_73 : decode bMo_grinds 73 = .ok (.idiv, 1) := by decide +kernel
theorem dMo_grinds_74 : decode bMo_grinds 74 = .ok (.istore_n 3, 1) := by decide +kernel
theorem dMo_grinds_75 : decode bMo_grinds 75 = .ok (.iload_n 3, 1) := by decide +kernel
theorem dMo_grinds_76 : decode bMo_grinds 76 = .ok (.aload_n 0, 1) := by decide +kernel
theorem dMo_grinds_77 : decode bMo_grinds 77 = .ok (.getfield 290, 3) := by decide +kernel
theorem dMo_grinds_80 : decode bMo_grinds 80 = .ok (.getfield 270, 3) := by decide +kernel
theorem dMo_grinds_83 : decode bMo_grinds 83 = .ok (.iload_n 2, 1) := by decide +kernel
theorem dMo_grinds_84 : decode bMo_grinds 84 = .ok (.iaload, 1) := by decide +kernel
theorem dMo_grinds_85 : decode bMo_grinds 85 = .ok (.imul, 1) := by decide +kernel
theorem dMo_grinds_86 : decode bMo_grinds 86 = .ok (.bipush 100, 2) := by decide +kernel
theorem dMo_grinds_88 : decode bMo_grinds 88 = .ok (.idiv, 1) := by decide +kernel
theorem dMo_grinds_89 : decode bMo_grinds 89 = .ok (.istore 4, 2) := by decide +kernel
theorem dMo_grinds_91 : decode bMo_grinds 91 = .ok (.aload_n 1, 1) := by decide +kernel
theorem dMo_grinds_92 : decode bMo_grinds 92 = .ok (.iconst 0, 1) := by decide +kernel
theorem dMo_grinds_93 : decode bMo_grinds 93 = .ok (.iload_n 2, 1) := by decide +kernel
theorem dMo_grinds_94 : decode bMo_grinds 94 = .ok (.iadd, 1) := by decide +kernel
theorem dMo_grinds_95 : decode bMo_grinds 95 = .ok (.dup2, 1) := by decide +kernel
theorem dMo_grinds_96 : decode bMo_grinds 96 = .ok (.iaload, 1) := by decide +kernel
theorem dMo_grinds_97 : decode bMo_grinds 97 = .ok (.iload_n 3, 1) := by decide +kernel
theorem dMo_grinds_98 : decode bMo_grinds 98 = .ok (.isub, 1) := by decide +kernel
theorem dMo_grinds_99 : decode bMo_grinds 99 = .ok (.iastore, 1) := by decide +kernel
theorem dMo_grinds_100 : decode bMo_grinds 100 = .ok (.aload_n 1, 1) := by decide +kernel
theorem dMo_grinds_101 : decode bMo_grinds 101 = .ok (.iconst 0, 1) := by decide +kernel
theorem dMo_grinds_102 : decode bMo_grinds 102 = .ok (.iload_n 2, 1) := by decide +kernel
theorem dMo_grinds_103 : decode bMo_grinds 103 = .ok (.iadd, 1) := by decide +kernel
theorem dMo_grinds_104 : decode bMo_grinds 104 = .ok (.iconst 1, 1) := by decide +kernel
theorem dMo_grinds_105 : decode bMo_grinds 105 = .ok (.iadd, 1) := by decide +kernel
theorem dMo_grinds_106 : decode bMo_grinds 106 = .ok (.dup2, 1) := by decide +kernel
theorem dMo_grinds_107 : decode bMo_grinds 107 = .ok (.iaload, 1) := by decide +kernel
theorem dMo_grinds_108 : decode bMo_grinds 108 = .ok (.iload 4, 2) := by decide +kernel
theorem dMo_grinds_110 : decode bMo_grinds 110 = .ok (.iadd, 1) := by decide +kernel
theorem dMo_grinds_111 : decode bMo_grinds 111 = .ok (.iastore, 1) := by decide +kernel
theorem dMo_grinds_112 : decode bMo_grinds 112 = .ok (.aload_n 1, 1) := by decide +kernel
theorem dMo_grinds_113 : decode bMo_grinds 113 = .ok (.iconst 0, 1) := by decide +kernel
theorem dMo_grinds_114 : decode bMo_grinds 114 = .ok (.iload_n 2, 1) := by decide +kernel
theorem dMo_grinds_115 : decode bMo_grinds 115 = .ok (.iconst 2, 1) := by decide +kernel
theorem dMo_grinds_116 : decode bMo_grinds 116 = .ok (.iadd, 1) := by decide +kernel
theorem dMo_grinds_117 : decode bMo_grinds 117 = .ok (.aload_n 0, 1) := by decide +kernel
theorem dMo_grinds_118 : decode bMo_grinds 118 = .ok (.getfield 290, 3) := by decide +kernel
theorem dMo_grinds_121 : decode bMo_grinds 121 = .ok (.getfield 191, 3) := by decide +kernel
theorem dMo_grinds_124 : decode bMo_grinds 124 = .ok (.if_icmp .ge 9, 3) := by decide +kernel
theorem dMo_grinds_127 : decode bMo_grinds 127 = .ok (.iload_n 2, 1) := by decide +kernel
theorem dMo_grinds_128 : decode bMo_grinds 128 = .ok (.iconst 2, 1) := by decide +kernel
theorem dMo_grinds_129 : decode bMo_grinds 129 = .ok (.iadd, 1) := by decide +kernel
theorem dMo_grinds_130 : decode bMo_grinds 130 = .ok (.goto 6, 3) := by decide +kernel
theorem dMo_grinds_133 : decode bMo_grinds 133 = .ok (.iload_n 2, 1) := by decide +kernel
theorem dMo_grinds_134 : decode bMo_grinds 134 = .ok (.iconst 1, 1) := by decide +kernel
theorem dMo_grinds_135 : decode bMo_grinds 135 = .ok (.iadd, 1) := by decide +kernel
theorem dMo_grinds_136 : decode bMo_grinds 136 = .ok (.iadd, 1) := by decide +kernel
theorem dMo_grinds_137 : decode bMo_grinds 137 = .ok (.dup2, 1) := by decide +kernel
theorem dMo_grinds_138 : decode bMo_grinds 138 = .ok (.iaload, 1) := by decide +kernel
theorem dMo_grinds_139 : decode bMo_grinds 139 = .ok (.iload_n 3, 1) := by decide +kernel
theorem dMo_grinds_140 : decode bMo_grinds 140 = .ok (.iload 4, 2) := by decide +kernel
theorem dMo_grinds_142 : decode bMo_grinds 142 = .ok (.isub, 1) := by decide +kernel
theorem dMo_grinds_143 : decode bMo_grinds 143 = .ok (.iadd, 1) := by decide +kernel
theorem dMo_grinds_144 : decode bMo_grinds 144 = .ok (.iastore, 1) := by decide +kernel
theorem dMo_grinds_145 : decode bMo_grinds 145 = .ok (.iinc 2 (-1), 3) := by decide +kernel
theorem dMo_grinds_148 : decode bMo_grinds 148 = .ok (.goto (-102), 3) := by decide +kernel
theorem dMo_grinds_151 : decode bMo_grinds 151 = .ok (.iconst 0, 1) := by decide +kernel
theorem dMo_grinds_152 : decode bMo_grinds 152 = .ok (.istore_n 2, 1) := by decide +kernel
theorem dMo_grinds_153 : decode bMo_grinds 153 = .ok (.iload_n 2, 1) := by decide +kernel
theorem dMo_grinds_154 : decode bMo_grinds 154 = .ok (.aload_n 0, 1) := by decide +kernel
theorem dMo_grinds_155 : decode bMo_grinds 155 = .ok (.getfield 290, 3) := by decide +kernel
theorem dMo_grinds_158 : decode bMo_grinds 158 = .ok (.getfield 191, 3) := by decide +kernel
theorem dMo_grinds_161 : decode bMo_grinds 161 = .ok (.if_icmp .ge 82, 3) := by decide +kernel
theorem dMo_grinds_164 : decode bMo_grinds 164 = .ok (.aload_n 1, 1) := by decide +kernel
theorem dMo_grinds_165 : decode bMo_grinds 165 = .ok (.iconst 0, 1) := by decide +kernel
theorem dMo_grinds_166 : decode bMo_grinds 166 = .ok (.iload_n 2, 1) := by decide +kernel
theorem dMo_grinds_167 : decode bMo_grinds 167 = .ok (.iadd, 1) := by decide +kernel
theorem dMo_grinds_168 : decode bMo_grinds 168 = .ok (.iaload, 1) := by decide +kernel
theorem dMo_grinds_169 : decode bMo_grinds 169 = .ok (.bipush 20, 2) := by decide +kernel
theorem dMo_grinds_171 : decode bMo_grinds 171 = .ok (.bipush 10, 2) := by decide +kernel
theorem dMo_grinds_173 : decode bMo_grinds 173 = .ok (.aload_n 1, 1) := by decide +kernel
theorem dMo_grinds_174 : decode bMo_grinds 174 = .ok (.bipush 35, 2) := by decide +kernel
theorem dMo_grinds_176 : decode bMo_grinds 176 = .ok (.iaload, 1) := by decide +kernel
theorem dMo_grinds_177 : decode bMo_grinds 177 = .ok (.imul, 1) := by decide +kernel
theorem dMo_grinds_178 : decode bMo_grinds 178 = .ok (.iadd, 1) := by decide +kernel
theorem dMo_grinds_179 : decode bMo_grinds 179 = .ok (.imul, 1) := by decide +kernel
theorem dMo_grinds_180 : decode bMo_grinds 180 = .ok (.bipush 100, 2) := by decide +kernel
theorem dMo_grinds_182 : decode bMo_grinds 182 = .ok (.idiv, 1) := by decide +kernel
theorem dMo_grinds_183 : decode bMo_grinds 183 = .ok (.istore_n 3, 1) := by decide +kernel
theorem dMo_grinds_184 : decode bMo_grinds 184 = .ok (.iload_n 3, 1) := by decide +kernel
theorem dMo_grinds_185 : decode bMo_grinds 185 = .ok (.aload_n 0, 1) := by decide +kernel
theorem dMo_grinds_186 : decode bMo_grinds 186 = .ok (.iload_n 2, 1) := by decide +kernel
theorem dMo_grinds_187 : decode bMo_grinds 187 = .ok (.aload_n 1, 1) := by decide +kernel
theorem dMo_grinds_188 : decode bMo_grinds 188 = .ok (.bipush 25, 2) := by decide +kernel
theorem dMo_grinds_190 : decode bMo_grinds 190 = .ok (.iaload, 1) := by decide +kernel
theorem dMo_grinds_191 : decode bMo_grinds 191 = .ok (.invokevirtual 320, 3) := by decide +kernel
theorem dMo_grinds_194 : decode bMo_grinds 194 = .ok (.imul, 1) := by decide +kernel
theorem dMo_grinds_195 : decode bMo_grinds 195 = .ok (.bipush 100, 2) := by decide +kernel
theorem dMo_grinds_197 : decode bMo_grinds 197 = .ok (.idiv, 1) := by decide +kernel
theorem dMo_grinds_198 : decode bMo_grinds 198 = .ok (.istore 4, 2) := by decide +kernel
theorem dMo_grinds_200 : decode bMo_grinds 200 = .ok (.aload_n 1, 1) := by decide +kernel
theorem dMo_grinds_201 : decode bMo_grinds 201 = .ok (.iconst 0, 1) := by decide +kernel
theorem dMo_grinds_202 : decode bMo_grinds 202 = .ok (.iload_n 2, 1) := by decide +kernel
theorem dMo_grinds_203 : decode bMo_grinds 203 = .ok (.iadd, 1) := by decide +kernel
theorem dMo_grinds_204 : decode bMo_grinds 204 = .ok (.dup2, 1) := by decide +kernel
theorem dMo_grinds_205 : decode bMo_grinds 205 = .ok (.iaload, 1) := by decide +kernel
theorem dMo_grinds_206 : decode bMo_grinds 206 = .ok (.iload_n 3, 1) := by decide +kernel
theorem dMo_grinds_207 : decode bMo_grinds 207 = .ok (.isub, 1) := by decide +kernel
theorem dMo_grinds_208 : decode bMo_grinds 208 = .ok (.iastore, 1) := by decide +kernel
theorem dMo_grinds_209 : decode bMo_grinds 209 = .ok (.aload_n 1, 1) := by decide +kernel
theorem dMo_grinds_210 : decode bMo_grinds 210 = .ok (.bipush 10, 2) := by decide +kernel
theorem dMo_grinds_212 : decode bMo_grinds 212 = .ok (.iload_n 2, 1) := by decide +kernel
theorem dMo_grinds_213 : decode bMo_grinds 213 = .ok (.iadd, 1) := by decide +kernel
theorem dMo_grinds_214 : decode bMo_grinds 214 = .ok (.iload 4, 2) := by decide +kernel
theorem dMo_grinds_216 : decode bMo_grinds 216 = .ok (.iastore, 1) := by decide +kernel
theorem dMo_grinds_217 : decode bMo_grinds 217 = .ok (.aload_n 1, 1) := by decide +kernel
theorem dMo_grinds_218 : decode bMo_grinds 218 = .ok (.bipush 15, 2) := by decide +kernel
theorem dMo_grinds_220 : decode bMo_grinds 220 = .ok (.iload_n 2, 1) := by decide +kernel
theorem dMo_grinds_221 : decode bMo_grinds 221 = .ok (.iadd, 1) := by decide +kernel
theorem dMo_grinds_222 : decode bMo_grinds 222 = .ok (.dup2, 1) := by decide +kernel
theorem dMo_grinds_223 : decode bMo_grinds 223 = .ok (.iaload, 1) := by decide +kernel
theorem dMo_grinds_224 : decode bMo_grinds 224 = .ok (.iload 4, 2) := by decide +kernel
theorem dMo_grinds_226 : decode bMo_grinds 226 = .ok (.iadd, 1) := by decide +kernel
theorem dMo_grinds_227 : decode bMo_grinds 227 = .ok (.iastore, 1) := by decide +kernel
theorem dMo_grinds_228 : decode bMo_grinds 228 = .ok (.aload_n 1, 1) := by decide +kernel
theorem dMo_grinds_229 : decode bMo_grinds 229 = .ok (.iconst 5, 1) := by decide +kernel
theorem dMo_grinds_230 : decode bMo_grinds 230 = .ok (.iload_n 2, 1) := by decide +kernel
theorem dMo_grinds_231 : decode bMo_grinds 231 = .ok (.iadd, 1) := by decide +kernel
theorem dMo_grinds_232 : decode bMo_grinds 232 = .ok (.iload_n 3, 1) := by decide +kernel
theorem dMo_grinds_233 : decode bMo_grinds 233 = .ok (.iload 4, 2) := by decide +kernel
theorem dMo_grinds_235 : decode bMo_grinds 235 = .ok (.isub, 1) := by decide +kernel
theorem dMo_grinds_236 : decode bMo_grinds 236 = .ok (.iastore, 1) := by decide +kernel
theorem dMo_grinds_237 : decode bMo_grinds 237 = .ok (.iinc 2 1, 3) := by decide +kernel
theorem dMo_grinds_240 : decode bMo_grinds 240 = .ok (.goto (-87), 3) := by decide +kernel
theorem dMo_grinds_243 : decode bMo_grinds 243 = .ok (.return_, 1) := by decide +kernel
theorem dMo_isOre_0 : decode bMo_isOre 0 = .ok (.aload_n 0, 1) := by decide +kernel
theorem dMo_isOre_1 : decode bMo_isOre 1 = .ok (.getfield 290, 3) := by decide +kernel
theorem dMo_isOre_4 : decode bMo_isOre 4 = .ok (.ifnull 22, 3) := by decide +kernel
theorem dMo_isOre_7 : decode bMo_isOre 7 = .ok (.iload_n 1, 1) := by decide +kernel
theorem dMo_isOre_8 : decode bMo_isOre 8 = .ok (.ifCond .lt 18, 3) := by decide +kernel
theorem dMo_isOre_11 : decode bMo_isOre 11 = .ok (.iload_n 1, 1) := by decide +kernel
theorem dMo_isOre_12 : decode bMo_isOre 12 = .ok (.aload_n 0, 1) := by decide +kernel
theorem dMo_isOre_13 : decode bMo_isOre 13 = .ok (.getfield 290, 3) := by decide +kernel
theorem dMo_isOre_16 : decode bMo_isOre 16 = .ok (.getfield 194, 3) := by decide +kernel
theorem dMo_isOre_19 : decode bMo_isOre 19 = .ok (.if_icmp .ge 7, 3) := by decide +kernel
theorem dMo_isOre_22 : decode bMo_isOre 22 = .ok (.iconst 1, 1) := by decide +kernel
theorem dMo_isOre_23 : decode bMo_isOre 23 = .ok (.goto 4, 3) := by decide +kernel
theorem dMo_isOre_26 : decode bMo_isOre 26 = .ok (.iconst 0, 1) := by decide +kernel
theorem dMo_isOre_27 : decode bMo_isOre 27 = .ok (.ireturn, 1) := by decide +kernel
theorem dMo_set_0 : decode bMo_set 0 = .ok (.aload_n 0, 1) := by decide +kernel
theorem dMo_set_1 : decode bMo_set 1 = .ok (.iconst 0, 1) := by decide +kernel
theorem dMo_set_2 : decode bMo_set 2 = .ok (.putfield 73, 3) := by decide +kernel
theorem dMo_set_5 : decode bMo_set 5 = .ok (.aload_n 0, 1) := by decide +kernel
theorem dMo_set_6 : decode bMo_set 6 = .ok (.iload_n 3, 1) := by decide +kernel
theorem dMo_set_7 : decode bMo_set 7 = .ok (.invokevirtual 323, 3) := by decide +kernel
theorem dMo_set_10 : decode bMo_set 10 = .ok (.ifCond .ne 9, 3) := by decide +kernel
theorem dMo_set_13 : decode bMo_set 13 = .ok (.aload_n 0, 1) := by decide +kernel
theorem dMo_set_14 : decode bMo_set 14 = .ok (.iconst 1, 1) := by decide +kernel
theorem dMo_set_15 : decode bMo_set 15 = .ok (.invokevirtual 326, 3) := by decide +kernel
theorem dMo_set_18 : decode bMo_set 18 = .ok (.ireturn, 1) := by decide +kernel
theorem dMo_set_19 : decode bMo_set 19 = .ok (.iload_n 1, 1) := by decide +kernel
theorem dMo_set_20 : decode bMo_set 20 = .ok (.iconst 0, 1) := by decide +kernel
theorem dMo_set_21 : decode bMo_set 21 = .ok (.iconst 3, 1) := by decide +kernel
theorem dMo_set_22 : decode bMo_set 22 = .ok (.invokestatic 149, 3) := by decide +kernel
theorem dMo_set_25 : decode bMo_set 25 = .ok (.ifCond .eq 12, 3) := by decide +kernel
theorem dMo_set_28 : decode bMo_set 28 = .ok (.iload_n 2, 1) := by decide +kernel
theorem dMo_set_29 : decode bMo_set 29 = .ok (.iconst 0, 1) := by decide +kernel
theorem dMo_set_30 : decode bMo_set 30 = .ok (.iconst 3, 1) := by decide +kernel
theorem dMo_set_31 : decode bMo_set 31 = .ok (.invokestatic 149, 3) := by decide +kernel
theorem dMo_set_34 : decode bMo_set 34 = .ok (.ifCond .ne 9, 3) := by decide +kernel
theorem dMo_set_37 : decode bMo_set 37 = .ok (.aload_n 0, 1) := by decide +kernel
theorem dMo_set_38 : decode bMo_set 38 = .ok (.iconst 2, 1) := by decide +kernel
theorem dMo_set_39 : decode bMo_set 39 = .ok (.invokevirtual 326, 3) := by decide +kernel
theorem dMo_set_42 : decode bMo_set 42 = .ok (.ireturn, 1) := by decide +kernel
theorem dMo_set_43 : decode bMo_set 43 = .ok (.aload_n 0, 1) := by decide +kernel
theorem dMo_set_44 : decode bMo_set 44 = .ok (.getfield 17, 3) := by decide +kernel
theorem dMo_set_47 : decode bMo_set 47 = .ok (.bipush 34, 2) := by decide +kernel
theorem dMo_set_49 : decode bMo_set 49 = .ok (.iload_n 1, 1) := by decide +kernel
theorem dMo_set_50 : decode bMo_set 50 = .ok (.iastore, 1) := by decide +kernel
theorem dMo_set_51 : decode bMo_set 51 = .ok (.aload_n 0, 1) := by decide +kernel
theorem dMo_set_52 : decode bMo_set 52 = .ok (.getfield 17, 3) := by decide +kernel
theorem dMo_set_55 : decode bMo_set 55 = .ok (.bipush 35, 2) := by decide +kernel
theorem dMo_set_57 : decode bMo_set 57 = .ok (.iload_n 2, 1) := by decide +kernel
theorem dMo_set_58 : decode bMo_set 58 = .ok (.iastore, 1) := by decide +kernel
theorem dMo_set_59 : decode bMo_set 59 = .ok (.aload_n 0, 1) := by decide +kernel
theorem dMo_set_60 : decode bMo_set 60 = .ok (.getfield 17, 3) := by decide +kernel
theorem dMo_set_63 : decode bMo_set 63 = .ok (.bipush 36, 2) := by decide +kernel
theorem dMo_set_65 : decode bMo_set 65 = .ok (.iload_n 3, 1) := by decide +kernel
theorem dMo_set_66 : decode bMo_set 66 = .ok (.iastore, 1) := by decide +kernel
theorem dMo_set_67 : decode bMo_set 67 = .ok (.aload_n 0, 1) := by decide +kernel
theorem dMo_set_68 : decode bMo_set 68 = .ok (.invokevirtual 329, 3) := by decide +kernel
theorem dMo_set_71 : decode bMo_set 71 = .ok (.ireturn, 1) := by decide +kernel
theorem dMo_mend_0 : decode bMo_mend 0 = .ok (.aload_n 0, 1) := by decide +kernel
theorem dMo_mend_1 : decode bMo_mend 1 = .ok (.iconst 0, 1) := by decide +kernel
theorem dMo_mend_2 : decode bMo_mend 2 = .ok (.putfield 73, 3) := by decide +kernel
theorem dMo_mend_5 : decode bMo_mend 5 = .ok (.aload_n 0, 1) := by decide +kernel
theorem dMo_mend_6 : decode bMo_mend 6 = .ok (.getfield 290, 3) := by decide +kernel
theorem dMo_mend_9 : decode bMo_mend 9 = .ok (.ifnonnull 9, 3) := by decide +kernel
theorem dMo_mend_12 : decode bMo_mend 12 = .ok (.aload_n 0, 1) := by decide +kernel
theorem dMo_mend_13 : decode bMo_mend 13 = .ok (.iconst 1, 1) := by decide +kernel
theorem dMo_mend_14 : decode bMo_mend 14 = .ok (.invokevirtual 326, 3) := by decide +kernel
theorem dMo_mend_17 : decode bMo_mend 17 = .ok (.ireturn, 1) := by decide +kernel
theorem dMo_mend_18 : decode bMo_mend 18 = .ok (.iload_n 1, 1) := by decide +kernel
theorem dMo_mend_19 : decode bMo_mend 19 = .ok (.iconst 0, 1) := by decide +kernel
theorem dMo_mend_20 : decode bMo_mend 20 = .ok (.iconst 3, 1) := by decide +kernel
theorem dMo_mend_21 : decode bMo_mend 21 = .ok (.invokestatic 149, 3) := by decide +kernel
theorem dMo_mend_24 : decode bMo_mend 24 = .ok (.ifCond .ne 9, 3) := by decide +kernel
theorem dMo_mend_27 : decode bMo_mend 27 = .ok (.aload_n 0, 1) := by decide +kernel
theorem dMo_mend_28 : decode bMo_mend 28 = .ok (.iconst 2, 1) := by decide +kernel
theorem dMo_mend_29 : decode bMo_mend 29 = .ok (.invokevirtual 326, 3) := by decide +kernel
theorem dMo_mend_32 : decode bMo_mend 32 = .ok (.ireturn, 1) := by decide +kernel
theorem dMo_mend_33 : decode bMo_mend 33 = .ok (.aload_n 0, 1) := by decide +kernel
theorem dMo_mend_34 : decode bMo_mend 34 = .ok (.getfield 17, 3) := by decide +kernel
theorem dMo_mend_37 : decode bMo_mend 37 = .ok (.bipush 25, 2) := by decide +kernel
theorem dMo_mend_39 : decode bMo_mend 39 = .ok (.iload_n 1, 1) := by decide +kernel
theorem dMo_mend_40 : decode bMo_mend 40 = .ok (.iastore, 1) := by decide +kernel
theorem dMo_mend_41 : decode bMo_mend 41 = .ok (.iload_n 2, 1) := by decide +kernel
theorem dMo_mend_42 : decode bMo_mend 42 = .ok (.ifCond .eq 11, 3) := by decide +kernel
theorem dMo_mend_45 : decode bMo_mend 45 = .ok (.aload_n 0, 1) := by decide +kernel
theorem dMo_mend_46 : decode bMo_mend 46 = .ok (.getfield 17, 3) := by decide +kernel
theorem dMo_mend_49 : decode bMo_mend 49 = .ok (.bipush 24, 2) := by decide +kernel
theorem dMo_mend_51 : decode bMo_mend 51 = .ok (.iconst 0, 1) := by decide +kernel
theorem dMo_mend_52 : decode bMo_mend 52 = .ok (.iastore, 1) := by decide +kernel
theorem dMo_mend_53 : decode bMo_mend 53 = .ok (.aload_n 0, 1) := by decide +kernel
theorem dMo_mend_54 : decode bMo_mend 54 = .ok (.invokevirtual 329, 3) := by decide +kernel
theorem dMo_mend_57 : decode bMo_mend 57 = .ok (.ireturn, 1) := by decide +kernel
theorem dMo_go_0 : decode bMo_go 0 = .ok (.aload_n 0, 1) := by decide +kernel
theorem dMo_go_1 : decode bMo_go 1 = .ok (.iconst 0, 1) := by decide +kernel
theorem dMo_go_2 : decode bMo_go 2 = .ok (.putfield 73, 3) := by decide +kernel
theorem dMo_go_5 : decode bMo_go 5 = .ok (.aload_n 0, 1) := by decide +kernel
theorem dMo_go_6 : decode bMo_go 6 = .ok (.getfield 290, 3) := by decide +kernel
theorem dMo_go_9 : decode bMo_go 9 = .ok (.ifnonnull 9, 3) := by decide +kernel
theorem dMo_go_12 : decode bMo_go 12 = .ok (.aload_n 0, 1) := by decide +kernel
theorem dMo_go_13 : decode bMo_go 13 = .ok (.iconst 1, 1) := by decide +kernel
theorem dMo_go_14 : decode bMo_go 14 = .ok (.invokevirtual 283, 3) := by decide +kernel
theorem dMo_go_17 : decode bMo_go 17 = .ok (.ireturn, 1) := by decide +kernel
theorem dMo_go_18 : decode bMo_go 18 = .ok (.iload_n 1, 1) := by decide +kernel
theorem dMo_go_19 : decode bMo_go 19 = .ok (.iconst 1, 1) := by decide +kernel
theorem dMo_go_20 : decode bMo_go 20 = .ok (.bipush 24, 2) := by decide +kernel
theorem dMo_go_22 : decode bMo_go 22 = .ok (.invokestatic 149, 3) := by decide +kernel
theorem dMo_go_25 : decode bMo_go 25 = .ok (.ifCond .ne 9, 3) := by decide +kernel
theorem dMo_go_28 : decode bMo_go 28 = .ok (.aload_n 0, 1) := by decide +kernel
theorem dMo_go_29 : decode bMo_go 29 = .ok (.iconst 2, 1) := by decide +kernel
theorem dMo_go_30 : decode bMo_go 30 = .ok (.invokevirtual 283, 3) := by decide +kernel
theorem dMo_go_33 : decode bMo_go 33 = .ok (.ireturn, 1) := by decide +kernel
theorem dMo_go_34 : decode bMo_go 34 = .ok (.aload_n 0, 1) := by decide +kernel
theorem dMo_go_35 : decode bMo_go 35 = .ok (.getfield 17, 3) := by decide +kernel
theorem dMo_go_38 : decode bMo_go 38 = .ok (.bipush 27, 2) := by decide +kernel
theorem dMo_go_40 : decode bMo_go 40 = .ok (.iaload, 1) := by decide +kernel
theorem dMo_go_41 : decode bMo_go 41 = .ok (.iload_n 1, 1) := by decide +kernel
theorem dMo_go_42 : decode bMo_go 42 = .ok (.iadd, 1) := by decide +kernel
theorem dMo_go_43 : decode bMo_go 43 = .ok (.sipush 240, 3) := by decide +kernel
theorem dMo_go_46 : decode bMo_go 46 = .ok (.if_icmp .le 9, 3) := by decide +kernel
theorem dMo_go_49 : decode bMo_go 49 = .ok (.aload_n 0, 1) := by decide +kernel
theorem dMo_go_50 : decode bMo_go 50 = .ok (.iconst 3, 1) := by decide +kernel
theorem dMo_go_51 : decode bMo_go 51 = .ok (.invokevirtual 283, 3) := by decide +kernel
theorem dMo_go_54 : decode bMo_go 54 = .ok (.ireturn, 1) := by decide +kernel
theorem dMo_go_55 : decode bMo_go 55 = .ok (.iconst 0, 1) := by decide +kernel
theorem dMo_go_56 : decode bMo_go 56 = .ok (.istore_n 2, 1) := by decide +kernel
theorem dMo_go_57 : decode bMo_go 57 = .ok (.iconst 0, 1) := by decide +kernel
theorem dMo_go_58 : decode bMo_go 58 = .ok (.istore_n 3, 1) := by decide +kernel
theorem dMo_go_59 : decode bMo_go 59 = .ok (.iload_n 3, 1) := by decide +kernel
theorem dMo_go_60 : decode bMo_go 60 = .ok (.iload_n 1, 1) := by decide +kernel
theorem dMo_go_61 : decode bMo_go 61 = .ok (.if_icmp .ge 61, 3) := by decide +kernel
theorem dMo_go_64 : decode bMo_go 64 = .ok (.aload_n 0, 1) := by decide +kernel
theorem dMo_go_65 : decode bMo_go 65 = .ok (.aload_n 0, 1) := by decide +kernel
theorem dMo_go_66 : decode bMo_go 66 = .ok (.getfield 17, 3) := by decide +kernel
theorem dMo_go_69 : decode bMo_go 69 = .ok (.invokevirtual 332, 3) := by decide +kernel
theorem dMo_go_72 : decode bMo_go 72 = .ok (.aload_n 0, 1) := by decide +kernel
theorem dMo_go_73 : decode bMo_go 73 = .ok (.getfield 17, 3) := by decide +kernel
theorem dMo_go_76 : decode bMo_go 76 = .ok (.bipush 26, 2) := by decide +kernel
theorem dMo_go_78 : decode bMo_go 78 = .ok (.iaload, 1) := by decide +kernel
theorem dMo_go_79 : decode bMo_go 79 = .ok (.ifCond .ne 9, 3) := by decide +kernel
theorem dMo_go_82 : decode bMo_go 82 = .ok (.iinc 2 1, 3) := by decide +kernel
theorem dMo_go_85 : decode bMo_go 85 = .ok (.goto 31, 3) := by decide +kernel
theorem dMo_go_88 : decode bMo_go 88 = .ok (.aload_n 0, 1) := by decide +kernel
theorem dMo_go_89 : decode bMo_go 89 = .ok (.getfield 24, 3) := by decide +kernel
theorem dMo_go_92 : decode bMo_go 92 = .ok (.aload_n 0, 1) := by decide +kernel
theorem dMo_go_93 : decode bMo_go 93 = .ok (.getfield 299, 3) := by decide +kernel
theorem dMo_go_96 : decode bMo_go 96 = .ok (.aload_n 0, 1) := by decide +kernel
theorem dMo_go_97 : decode bMo_go 97 = .ok (.getfield 17, 3) := by decide +kernel
theorem dMo_go_100 : decode bMo_go 100 = .ok (.bipush 27, 2) := by decide +kernel
theorem dMo_go_102 : decode bMo_go 102 = .ok (.iaload, 1) := by decide +kernel
theorem dMo_go_103 : decode bMo_go 103 = .ok (.iconst 1, 1) := by decide +kernel
theorem dMo_go_104 : decode bMo_go 104 = .ok (.isub, 1) := by decide +kernel
theorem dMo_go_105 : decode bMo_go 105 = .ok (.iastore, 1) := by decide +kernel
theorem dMo_go_106 : decode bMo_go 106 = .ok (.aload_n 0, 1) := by decide +kernel
theorem dMo_go_107 : decode bMo_go 107 = .ok (.dup, 1) := by decide +kernel
theorem dMo_go_108 : decode bMo_go 108 = .ok (.getfield 299, 3) := by decide +kernel
theorem dMo_go_111 : decode bMo_go 111 = .ok (.iconst 1, 1) := by decide +kernel
theorem dMo_go_112 : decode bMo_go 112 = .ok (.iadd, 1) := by decide +kernel
theorem dMo_go_113 : decode bMo_go 113 = .ok (.putfield 299, 3) := by decide +kernel
theorem dMo_go_116 : decode bMo_go 116 = .ok (.iinc 3 1, 3) := by decide +kernel
theorem dMo_go_119 : decode bMo_go 119 = .ok (.goto (-60), 3) := by decide +kernel
theorem dMo_go_122 : decode bMo_go 122 = .ok (.aload_n 0, 1) := by decide +kernel
theorem dMo_go_123 : decode bMo_go 123 = .ok (.iload_n 2, 1) := by decide +kernel
theorem dMo_go_124 : decode bMo_go 124 = .ok (.invokevirtual 302, 3) := by decide +kernel
theorem dMo_go_127 : decode bMo_go 127 = .ok (.ireturn, 1) := by decide +kernel
theorem dMo_isSize_0 : decode bMo_isSize 0 = .ok (.aload_n 0, 1) := by decide +kernel
theorem dMo_isSize_1 : decode bMo_isSize 1 = .ok (.getfield 290, 3) := by decide +kernel
theorem dMo_isSize_4 : decode bMo_isSize 4 = .ok (.ifnull 22, 3) := by decide +kernel
theorem dMo_isSize_7 : decode bMo_isSize 7 = .ok (.iload_n 1, 1) := by decide +kernel
theorem dMo_isSize_8 : decode bMo_isSize 8 = .ok (.ifCond .lt 18, 3) := by decide +kernel
theorem dMo_isSize_11 : decode bMo_isSize 11 = .ok (.iload_n 1, 1) := by decide +kernel
theorem dMo_isSize_12 : decode bMo_isSize 12 = .ok (.aload_n 0, 1) := by decide +kernel
theorem dMo_isSize_13 : decode bMo_isSize 13 = .ok (.getfield 290, 3) := by decide +kernel
theorem dMo_isSize_16 : decode bMo_isSize 16 = .ok (.getfield 191, 3) := by decide +kernel
theorem dMo_isSize_19 : decode bMo_isSize 19 = .ok (.if_icmp .ge 7, 3) := by decide +kernel
theorem dMo_isSize_22 : decode bMo_isSize 22 = .ok (.iconst 1, 1) := by decide +kernel
theorem dMo_isSize_23 : decode bMo_isSize 23 = .ok (.goto 4, 3) := by decide +kernel
theorem dMo_isSize_26 : decode bMo_isSize 26 = .ok (.iconst 0, 1) := by decide +kernel
theorem dMo_isSize_27 : decode bMo_isSize 27 = .ok (.ireturn, 1) := by decide +kernel
theorem dMo_tons_0 : decode bMo_tons 0 = .ok (.aload_n 0, 1) := by decide +kernel
theorem dMo_tons_1 : decode bMo_tons 1 = .ok (.iconst 0, 1) := by decide +kernel
theorem dMo_tons_2 : decode bMo_tons 2 = .ok (.putfield 73, 3) := by decide +kernel
theorem dMo_tons_5 : decode bMo_tons 5 = .ok (.aload_n 0, 1) := by decide +kernel
theorem dMo_tons_6 : decode bMo_tons 6 = .ok (.iload_n 1, 1) := by decide +kernel
theorem dMo_tons_7 : decode bMo_tons 7 = .ok (.invokevirtual 335, 3) := by decide +kernel
theorem dMo_tons_10 : decode bMo_tons 10 = .ok (.ifCond .eq 12, 3) := by decide +kernel
theorem dMo_tons_13 : decode bMo_tons 13 = .ok (.iload_n 2, 1) := by decide +kernel
theorem dMo_tons_14 : decode bMo_tons 14 = .ok (.iconst 0, 1) := by decide +kernel
theorem dMo_tons_15 : decode bMo_tons 15 = .ok (.iconst 3, 1) := by decide +kernel
theorem dMo_tons_16 : decode bMo_tons 16 = .ok (.invokestatic 149, 3) := by decide +kernel
theorem dMo_tons_19 : decode bMo_tons 19 = .ok (.ifCond .ne 5, 3) := by decide +kernel
theorem dMo_tons_22 : decode bMo_tons 22 = .ok (.iconst (-1), 1) := by decide +kernel
theorem dMo_tons_23 : decode bMo_tons 23 = .ok (.ireturn, 1) := by decide +kernel
theorem dMo_tons_24 : decode bMo_tons 24 = .ok (.aload_n 0, 1) := by decide +kernel
theorem dMo_tons_25 : decode bMo_tons 25 = .ok (.getfield 17, 3) := by decide +kernel
theorem dMo_tons_28 : decode bMo_tons 28 = .ok (.iload_n 2, 1) := by decide +kernel
theorem dMo_tons_29 : decode bMo_tons 29 = .ok (.ifCond .ne 7, 3) := by decide +kernel
theorem dMo_tons_32 : decode bMo_tons 32 = .ok (.iconst 0, 1) := by decide +kernel
theorem dMo_tons_33 : decode bMo_tons 33 = .ok (.goto 24, 3) := by decide +kernel
theorem dMo_tons_36 : decode bMo_tons 36 = .ok (.iload_n 2, 1) := by decide +kernel
theorem dMo_tons_37 : decode bMo_tons 37 = .ok (.iconst 1, 1) := by decide +kernel
theorem dMo_tons_38 : decode bMo_tons 38 = .ok (.if_icmp .ne 7, 3) := by decide +kernel
theorem dMo_tons_41 : decode bMo_tons 41 = .ok (.iconst 5, 1) := by decide +kernel
theorem dMo_tons_42 : decode bMo_tons 42 = .ok (.goto 15, 3) := by decide +kernel
theorem dMo_tons_45 : decode bMo_tons 45 = .ok (.iload_n 2, 1) := by decide +kernel
theorem dMo_tons_46 : decode bMo_tons 46 = .ok (.iconst 2, 1) := by decide +kernel
theorem dMo_tons_47 : decode bMo_tons 47 = .ok (.if_icmp .ne 8, 3) := by decide +kernel
theorem dMo_tons_50 : decode bMo_tons 50 = .ok (.bipush 10, 2) := by decide +kernel
theorem dMo_tons_52 : decode bMo_tons 52 = .ok (.goto 5, 3) := by decide +kernel
theorem dMo_tons_55 : decode bMo_tons 55 = .ok (.bipush 15, 2) := by decide +kernel
theorem dMo_tons_57 : decode bMo_tons 57 = .ok (.iload_n 1, 1) := by decide +kernel
theorem dMo_tons_58 : decode bMo_tons 58 = .ok (.iadd, 1) := by decide +kernel
theorem dMo_tons_59 : decode bMo_tons 59 = .ok (.iaload, 1) := by decide +kernel
theorem dMo_tons_60 : decode bMo_tons 60 = .ok (.ireturn, 1) := by decide +kernel
theorem dMo_state_0 : decode bMo_state 0 = .ok (.aload_n 0, 1) := by decide +kernel
theorem dMo_state_1 : decode bMo_state 1 = .ok (.iconst 0, 1) := by decide +kernel
theorem dMo_state_2 : decode bMo_state 2 = .ok (.putfield 73, 3) := by decide +kernel
theorem dMo_state_5 : decode bMo_state 5 = .ok (.iload_n 1, 1) := by decide +kernel
theorem dMo_state_6 : decode bMo_state 6 = .ok (.iconst 0, 1) := by decide +kernel
theorem dMo_state_7 : decode bMo_state 7 = .ok (.bipush 16, 2) := by decide +kernel
theorem dMo_state_9 : decode bMo_state 9 = .ok (.invokestatic 149, 3) := by decide +kernel
theorem dMo_state_12 : decode bMo_state 12 = .ok (.ifCond .eq 15, 3) := by decide +kernel
theorem dMo_state_15 : decode bMo_state 15 = .ok (.aload_n 0, 1) := by decide +kernel
theorem dMo_state_16 : decode bMo_state 16 = .ok (.getfield 17, 3) := by decide +kernel
theorem dMo_state_19 : decode bMo_state 19 = .ok (.bipush 20, 2) := by decide +kernel
theorem dMo_state_21 : decode bMo_state 21 = .ok (.iload_n 1, 1) := by decide +kernel
theorem dMo_state_22 : decode bMo_state 22 = .ok (.iadd, 1) := by decide +kernel
theorem dMo_state_23 : decode bMo_state 23 = .ok (.iaload, 1) := by decide +kernel
theorem dMo_state_24 : decode bMo_state 24 = .ok (.goto 4, 3) := by decide +kernel
theorem dMo_state_27 : decode bMo_state 27 = .ok (.iconst (-1), 1) := by decide +kernel
theorem dMo_state_28 : decode bMo_state 28 = .ok (.ireturn, 1) := by decide +kernel
theorem dMo_program_0 : decode bMo_program 0 = .ok (.aload_n 0, 1) := by decide +kernel
theorem dMo_program_1 : decode bMo_program 1 = .ok (.iconst 0, 1) := by decide +kernel
theorem dMo_program_2 : decode bMo_program 2 = .ok (.putfield 73, 3) := by decide +kernel
theorem dMo_program_5 : decode bMo_program 5 = .ok (.iload_n 1, 1) := by decide +kernel
theorem dMo_program_6 : decode bMo_program 6 = .ok (.iconst 0, 1) := by decide +kernel
theorem dMo_program_7 : decode bMo_program 7 = .ok (.bipush 11, 2) := by decide +kernel
theorem dMo_program_9 : decode bMo_program 9 = .ok (.invokestatic 149, 3) := by decide +kernel
theorem dMo_program_12 : decode bMo_program 12 = .ok (.ifCond .eq 12, 3) := by decide +kernel
theorem dMo_program_15 : decode bMo_program 15 = .ok (.aload_n 0, 1) := by decide +kernel
theorem dMo_program_16 : decode bMo_program 16 = .ok (.iload 4, 2) := by decide +kernel
theorem dMo_program_18 : decode bMo_program 18 = .ok (.invokevirtual 323, 3) := by decide +kernel
theorem dMo_program_21 : decode bMo_program 21 = .ok (.ifCond .ne 9, 3) := by decide +kernel
theorem dMo_program_24 : decode bMo_program 24 = .ok (.aload_n 0, 1) := by decide +kernel
theorem dMo_program_25 : decode bMo_program 25 = .ok (.iconst 1, 1) := by decide +kernel
theorem dMo_program_26 : decode bMo_program 26 = .ok (.invokevirtual 326, 3) := by decide +kernel
theorem dMo_program_29 : decode bMo_program 29 = .ok (.ireturn, 1) := by decide +kernel
theorem dMo_program_30 : decode bMo_program 30 = .ok (.iload_n 2, 1) := by decide +kernel
theorem dMo_program_31 : decode bMo_program 31 = .ok (.iconst 0, 1) := by decide +kernel
theorem dMo_program_32 : decode bMo_program 32 = .ok (.iconst 3, 1) := by decide +kernel
theorem dMo_program_33 : decode bMo_program 33 = .ok (.invokestatic 149, 3) := by decide +kernel
theorem dMo_program_36 : decode bMo_program 36 = .ok (.ifCond .eq 12, 3) := by decide +kernel
theorem dMo_program_39 : decode bMo_program 39 = .ok (.iload_n 3, 1) := by decide +kernel
theorem dMo_program_40 : decode bMo_program 40 = .ok (.iconst 0, 1) := by decide +kernel
theorem dMo_program_41 : decode bMo_program 41 = .ok (.iconst 3, 1) := by decide +kernel
theorem dMo_program_42 : decode bMo_program 42 = .ok (.invokestatic 149, 3) := by decide +kernel
theorem dMo_program_45 : decode bMo_program 45 = .ok (.ifCond .ne 9, 3) := by decide +kernel
theorem dMo_program_48 : decode bMo_program 48 = .ok (.aload_n 0, 1) := by decide +kernel
theorem dMo_program_49 : decode bMo_program 49 = .ok (.iconst 2, 1) := by decide +kernel
theorem dMo_program_50 : decode bMo_program 50 = .ok (.invokevirtual 326, 3) := by decide +kernel
theorem dMo_program_53 : decode bMo_program 53 = .ok (.ireturn, 1) := by decide +kernel
theorem dMo_program_54 : decode bMo_program 54 = .ok (.aload_n 0, 1) := by decide +kernel
theorem dMo_program_55 : decode bMo_program 55 = .ok (.getfield 27, 3) := by decide +kernel
theorem dMo_program_58 : decode bMo_program 58 = .ok (.iload_n 1, 1) := by decide +kernel
theorem dMo_program_59 : decode bMo_program 59 = .ok (.iload_n 2, 1) := by decide +kernel
theorem dMo_program_60 : decode bMo_program 60 = .ok (.iastore, 1) := by decide +kernel
theorem dMo_program_61 : decode bMo_program 61 = .ok (.aload_n 0, 1) := by decide +kernel
theorem dMo_program_62 : decode bMo_program 62 = .ok (.getfield 30, 3) := by decide +kernel
theorem dMo_program_65 : decode bMo_program 65 = .ok (.iload_n 1, 1) := by decide +kernel
theorem dMo_program_66 : decode bMo_program 66 = .ok (.iload_n 3, 1) := by decide +kernel
theorem dMo_program_67 : decode bMo_program 67 = .ok (.iastore, 1) := by decide +kernel
theorem dMo_program_68 : decode bMo_program 68 = .ok (.aload_n 0, 1) := by decide +kernel
theorem dMo_program_69 : decode bMo_program 69 = .ok (.getfield 33, 3) := by decide +kernel
theorem dMo_program_72 : decode bMo_program 72 = .ok (.iload_n 1, 1) := by decide +kernel
theorem dMo_program_73 : decode bMo_program 73 = .ok (.iload 4, 2) := by decide +kernel
theorem dMo_program_75 : decode bMo_program 75 = .ok (.iastore, 1) := by decide +kernel
theorem dMo_program_76 : decode bMo_program 76 = .ok (.aload_n 0, 1) := by decide +kernel
theorem dMo_program_77 : decode bMo_program 77 = .ok (.invokevirtual 329, 3) := by decide +kernel
theorem dMo_program_80 : decode bMo_program 80 = .ok (.ireturn, 1) := by decide +kernel
theorem dMo_isWhat_0 : decode bMo_isWhat 0 = .ok (.aload_n 0, 1) := by decide +kernel
theorem dMo_isWhat_1 : decode bMo_isWhat 1 = .ok (.getfield 290, 3) := by decide +kernel
theorem dMo_isWhat_4 : decode bMo_isWhat 4 = .ok (.ifnull 34, 3) := by decide +kernel
theorem dMo_isWhat_7 : decode bMo_isWhat 7 = .ok (.iload_n 1, 1) := by decide +kernel
theorem dMo_isWhat_8 : decode bMo_isWhat 8 = .ok (.iconst 0, 1) := by decide +kernel
theorem dMo_isWhat_9 : decode bMo_isWhat 9 = .ok (.bipush 11, 2) := by decide +kernel
theorem dMo_isWhat_11 : decode bMo_isWhat 11 = .ok (.invokestatic 149, 3) := by decide +kernel
theorem dMo_isWhat_14 : decode bMo_isWhat 14 = .ok (.ifCond .eq 24, 3) := by decide +kernel
theorem dMo_isWhat_17 : decode bMo_isWhat 17 = .ok (.iload_n 2, 1) := by decide +kernel
theorem dMo_isWhat_18 : decode bMo_isWhat 18 = .ok (.iconst 0, 1) := by decide +kernel
theorem dMo_isWhat_19 : decode bMo_isWhat 19 = .ok (.aload_n 0, 1) := by decide +kernel
theorem dMo_isWhat_20 : decode bMo_isWhat 20 = .ok (.getfield 290, 3) := by decide +kernel
theorem dMo_isWhat_23 : decode bMo_isWhat 23 = .ok (.getfield 191, 3) := by decide +kernel
theorem dMo_isWhat_26 : decode bMo_isWhat 26 = .ok (.iconst 1, 1) := by decide +kernel
theorem dMo_isWhat_27 : decode bMo_isWhat 27 = .ok (.iadd, 1) := by decide +kernel
theorem dMo_isWhat_28 : decode bMo_isWhat 28 = .ok (.invokestatic 149, 3) := by decide +kernel
theorem dMo_isWhat_31 : decode bMo_isWhat 31 = .ok (.ifCond .eq 7, 3) := by decide +kernel
theorem dMo_isWhat_34 : decode bMo_isWhat 34 = .ok (.iconst 1, 1) := by decide +kernel
theorem dMo_isWhat_35 : decode bMo_isWhat 35 = .ok (.goto 4, 3) := by decide +kernel
theorem dMo_isWhat_38 : decode bMo_isWhat 38 = .ok (.iconst 0, 1) := by decide +kernel
theorem dMo_isWhat_39 : decode bMo_isWhat 39 = .ok (.ireturn, 1) := by decide +kernel
theorem dMo_seen_0 : decode bMo_seen 0 = .ok (.aload_n 0, 1) := by decide +kernel
theorem dMo_seen_1 : decode bMo_seen 1 = .ok (.iconst 0, 1) := by decide +kernel
theorem dMo_seen_2 : decode bMo_seen 2 = .ok (.putfield 73, 3) := by decide +kernel
theorem dMo_seen_5 : decode bMo_seen 5 = .ok (.aload_n 0, 1) := by decide +kernel
theorem dMo_seen_6 : decode bMo_seen 6 = .ok (.iload_n 1, 1) := by decide +kernel
theorem dMo_seen_7 : decode bMo_seen 7 = .ok (.iload_n 2, 1) := by decide +kernel
theorem dMo_seen_8 : decode bMo_seen 8 = .ok (.invokevirtual 338, 3) := by decide +kernel
theorem dMo_seen_11 : decode bMo_seen 11 = .ok (.ifCond .ne 9, 3) := by decide +kernel
theorem dMo_seen_14 : decode bMo_seen 14 = .ok (.aload_n 0, 1) := by decide +kernel
theorem dMo_seen_15 : decode bMo_seen 15 = .ok (.iconst 1, 1) := by decide +kernel
theorem dMo_seen_16 : decode bMo_seen 16 = .ok (.invokevirtual 283, 3) := by decide +kernel
theorem dMo_seen_19 : decode bMo_seen 19 = .ok (.ireturn, 1) := by decide +kernel
theorem dMo_seen_20 : decode bMo_seen 20 = .ok (.iload_n 3, 1) := by decide +kernel
theorem dMo_seen_21 : decode bMo_seen 21 = .ok (.iconst 0, 1) := by decide +kernel
theorem dMo_seen_22 : decode bMo_seen 22 = .ok (.ldc_w 342, 3) := by decide +kernel
theorem dMo_seen_25 : decode bMo_seen 25 = .ok (.invokestatic 149, 3) := by decide +kernel
theorem dMo_seen_28 : decode bMo_seen 28 = .ok (.ifCond .eq 15, 3) := by decide +kernel
theorem dMo_seen_31 : decode bMo_seen 31 = .ok (.iload 4, 2) := by decide +kernel
theorem dMo_seen_33 : decode bMo_seen 33 = .ok (.iconst 0, 1) := by decide +kernel
theorem dMo_seen_34 : decode bMo_seen 34 = .ok (.sipush 999, 3) := by decide +kernel
theorem dMo_seen_37 : decode bMo_seen 37 = .ok (.invokestatic 149, 3) := by decide +kernel
theorem dMo_seen_40 : decode bMo_seen 40 = .ok (.ifCond .ne 9, 3) := by decide +kernel
theorem dMo_seen_43 : decode bMo_seen 43 = .ok (.aload_n 0, 1) := by decide +kernel
theorem dMo_seen_44 : decode bMo_seen 44 = .ok (.iconst 2, 1) := by decide +kernel
theorem dMo_seen_45 : decode bMo_seen 45 = .ok (.invokevirtual 283, 3) := by decide +kernel
theorem dMo_seen_48 : decode bMo_seen 48 = .ok (.ireturn, 1) := by decide +kernel
theorem dMo_seen_49 : decode bMo_seen 49 = .ok (.aload_n 0, 1) := by decide +kernel
theorem dMo_seen_50 : decode bMo_seen 50 = .ok (.getfield 293, 3) := by decide +kernel
theorem dMo_seen_53 : decode bMo_seen 53 = .ok (.bipush 24, 2) := by decide +kernel
theorem dMo_seen_55 : decode bMo_seen 55 = .ok (.if_icmp .ne 9, 3) := by decide +kernel
theorem dMo_seen_58 : decode bMo_seen 58 = .ok (.aload_n 0, 1) := by decide +kernel
theorem dMo_seen_59 : decode bMo_seen 59 = .ok (.iconst 3, 1) := by decide +kernel
theorem dMo_seen_60 : decode bMo_seen 60 = .ok (.invokevirtual 283, 3) := by decide +kernel
theorem dMo_seen_63 : decode bMo_seen 63 = .ok (.ireturn, 1) := by decide +kernel
theorem dMo_seen_64 : decode bMo_seen 64 = .ok (.aload_n 0, 1) := by decide +kernel
theorem dMo_seen_65 : decode bMo_seen 65 = .ok (.getfield 36, 3) := by decide +kernel
theorem dMo_seen_68 : decode bMo_seen 68 = .ok (.aload_n 0, 1) := by decide +kernel
theorem dMo_seen_69 : decode bMo_seen 69 = .ok (.getfield 293, 3) := by decide +kernel
theorem dMo_seen_72 : decode bMo_seen 72 = .ok (.iload_n 1, 1) := by decide +kernel
theorem dMo_seen_73 : decode bMo_seen 73 = .ok (.iastore, 1) := by decide +kernel
theorem dMo_seen_74 : decode bMo_seen 74 = .ok (.aload_n 0, 1) := by decide +kernel
theorem dMo_seen_75 : decode bMo_seen 75 = .ok (.getfield 39, 3) := by decide +kernel
theorem dMo_seen_78 : decode bMo_seen 78 = .ok (.aload_n 0, 1) := by decide +kernel
theorem dMo_seen_79 : decode bMo_seen 79 = .ok (.getfield 293, 3) := by decide +kernel
theorem dMo_seen_82 : decode bMo_seen 82 = .ok (.iload_n 2, 1) := by decide +kernel
theorem dMo_seen_83 : decode bMo_seen 83 = .ok (.iastore, 1) := by decide +kernel
theorem dMo_seen_84 : decode bMo_seen 84 = .ok (.aload_n 0, 1) := by decide +kernel
theorem dMo_seen_85 : decode bMo_seen 85 = .ok (.getfield 42, 3) := by decide +kernel
theorem dMo_seen_88 : decode bMo_seen 88 = .ok (.aload_n 0, 1) := by decide +kernel
theorem dMo_seen_89 : decode bMo_seen 89 = .ok (.getfield 293, 3) := by decide +kernel
theorem dMo_seen_92 : decode bMo_seen 92 = .ok (.iload_n 3, 1) := by decide +kernel
theorem dMo_seen_93 : decode bMo_seen 93 = .ok (.iastore, 1) := by decide +kernel
theorem dMo_seen_94 : decode bMo_seen 94 = .ok (.aload_n 0, 1) := by decide +kernel
theorem dMo_seen_95 : decode bMo_seen 95 = .ok (.getfield 45, 3) := by decide +kernel
theorem dMo_seen_98 : decode bMo_seen 98 = .ok (.aload_n 0, 1) := by decide +kernel
theorem dMo_seen_99 : decode bMo_seen 99 = .ok (.getfield 293, 3) := by decide +kernel
theorem dMo_seen_102 : decode bMo_seen 102 = .ok (.iload 4, 2) := by decide +kernel
theorem dMo_seen_104 : decode bMo_seen 104 = .ok (.iastore, 1) := by decide +kernel
theorem dMo_seen_105 : decode bMo_seen 105 = .ok (.aload_n 0, 1) := by decide +kernel
theorem dMo_seen_106 : decode bMo_seen 106 = .ok (.dup, 1) := by decide +kernel
theorem dMo_seen_107 : decode bMo_seen 107 = .ok (.getfield 293, 3) := by decide +kernel
theorem dMo_seen_110 : decode bMo_seen 110 = .ok (.iconst 1, 1) := by decide +kernel
theorem dMo_seen_111 : decode bMo_seen 111 = .ok (.iadd, 1) := by decide +kernel
theorem dMo_seen_112 : decode bMo_seen 112 = .ok (.putfield 293, 3) := by decide +kernel
theorem dMo_seen_115 : decode bMo_seen 115 = .ok (.aload_n 0, 1) := by decide +kernel
theorem dMo_seen_116 : decode bMo_seen 116 = .ok (.aload_n 0, 1) := by decide +kernel
theorem dMo_seen_117 : decode bMo_seen 117 = .ok (.getfield 293, 3) := by decide +kernel
theorem dMo_seen_120 : decode bMo_seen 120 = .ok (.invokevirtual 302, 3) := by decide +kernel
theorem dMo_seen_123 : decode bMo_seen 123 = .ok (.ireturn, 1) := by decide +kernel
theorem dMo_forget_0 : decode bMo_forget 0 = .ok (.aload_n 0, 1) := by decide +kernel
theorem dMo_forget_1 : decode bMo_forget 1 = .ok (.iconst 0, 1) := by decide +kernel
theorem dMo_forget_2 : decode bMo_forget 2 = .ok (.putfield 73, 3) := by decide +kernel
theorem dMo_forget_5 : decode bMo_forget 5 = .ok (.aload_n 0, 1) := by decide +kernel
theorem dMo_forget_6 : decode bMo_forget 6 = .ok (.getfield 293, 3) := by decide +kernel
theorem dMo_forget_9 : decode bMo_forget 9 = .ok (.istore_n 1, 1) := by decide +kernel
theorem dMo_forget_10 : decode bMo_forget 10 = .ok (.aload_n 0, 1) := by decide +kernel
theorem dMo_forget_11 : decode bMo_forget 11 = .ok (.iconst 0, 1) := by decide +kernel
theorem dMo_forget_12 : decode bMo_forget 12 = .ok (.putfield 293, 3) := by decide +kernel
theorem dMo_forget_15 : decode bMo_forget 15 = .ok (.iload_n 1, 1) := by decide +kernel
theorem dMo_forget_16 : decode bMo_forget 16 = .ok (.ireturn, 1) := by decide +kernel
theorem dMo_begins_0 : decode bMo_begins 0 = .ok (.iconst 0, 1) := by decide +kernel
theorem dMo_begins_1 : decode bMo_begins 1 = .ok (.istore 5, 2) := by decide +kernel
theorem dMo_begins_3 : decode bMo_begins 3 = .ok (.iload 5, 2) := by decide +kernel
theorem dMo_begins_5 : decode bMo_begins 5 = .ok (.bipush 37, 2) := by decide +kernel
theorem dMo_begins_7 : decode bMo_begins 7 = .ok (.if_icmp .ge 14, 3) := by decide +kernel
theorem dMo_begins_10 : decode bMo_begins 10 = .ok (.aload_n 1, 1) := by decide +kernel
theorem dMo_begins_11 : decode bMo_begins 11 = .ok (.iload 5, 2) := by decide +kernel
theorem dMo_begins_13 : decode bMo_begins 13 = .ok (.iconst 0, 1) := by decide +kernel
theorem dMo_begins_14 : decode bMo_begins 14 = .ok (.iastore, 1) := by decide +kernel
theorem dMo_begins_15 : decode bMo_begins 15 = .ok (.iinc 5 1, 3) := by decide +kernel
theorem dMo_begins_18 : decode bMo_begins 18 = .ok (.goto (-15), 3) := by decide +kernel
theorem dMo_begins_21 : decode bMo_begins 21 = .ok (.iconst 0, 1) := by decide +kernel
theorem dMo_begins_22 : decode bMo_begins 22 = .ok (.istore 5, 2) := by decide +kernel
theorem dMo_begins_24 : decode bMo_begins 24 = .ok (.iload 5, 2) := by decide +kernel
theorem dMo_begins_26 : decode bMo_begins 26 = .ok (.aload_n 0, 1) := by decide +kernel
theorem dMo_begins_27 : decode bMo_begins 27 = .ok (.getfield 290, 3) := by decide +kernel
theorem dMo_begins_30 : decode bMo_begins 30 = .ok (.getfield 191, 3) := by decide +kernel
theorem dMo_begins_33 : decode bMo_begins 33 = .ok (.if_icmp .ge 28, 3) := by decide +kernel
theorem dMo_begins_36 : decode bMo_begins 36 = .ok (.aload_n 1, 1) := by decide +kernel
theorem dMo_begins_37 : decode bMo_begins 37 = .ok (.iconst 0, 1) := by decide +kernel
theorem dMo_begins_38 : decode bMo_begins 38 = .ok (.iload 5, 2) := by decide +kernel
theorem dMo_begins_40 : decode bMo_begins 40 = .ok (.iadd, 1) := by decide +kernel
theorem dMo_begins_41 : decode bMo_begins 41 = .ok (.iload 4, 2) := by decide +kernel
theorem dMo_begins_43 : decode bMo_begins 43 = .ok (.aload_n 0, 1) := by decide +kernel
theorem dMo_begins_44 : decode bMo_begins 44 = .ok (.getfield 290, 3) := by decide +kernel
theorem dMo_begins_47 : decode bMo_begins 47 = .ok (.getfield 278, 3) := by decide +kernel
theorem dMo_begins_50 : decode bMo_begins 50 = .ok (.iload 5, 2) := by decide +kernel
theorem dMo_begins_52 : decode bMo_begins 52 = .ok (.iaload, 1) := by decide +kernel
theorem dMo_begins_53 : decode bMo_begins 53 = .ok (.imul, 1) := by decide +kernel
theorem dMo_begins_54 : decode bMo_begins 54 = .ok (.iastore, 1) := by decide +kernel
theorem dMo_begins_55 : decode bMo_begins 55 = .ok (.iinc 5 1, 3) := by decide +kernel
theorem dMo_begins_58 : decode bMo_begins 58 = .ok (.goto (-34), 3) := by decide +kernel
theorem dMo_begins_61 : decode bMo_begins 61 = .ok (.aload_n 1, 1) := by decide +kernel
theorem dMo_begins_62 : decode bMo_begins 62 = .ok (.bipush 25, 2) := by decide +kernel
theorem dMo_begins_64 : decode bMo_begins 64 = .ok (.iload_n 2, 1) := by decide +kernel
theorem dMo_begins_65 : decode bMo_begins 65 = .ok (.iastore, 1) := by decide +kernel
theorem dMo_begins_66 : decode bMo_begins 66 = .ok (.aload_n 1, 1) := by decide +kernel
theorem dMo_begins_67 : decode bMo_begins 67 = .ok (.bipush 24, 2) := by decide +kernel
theorem dMo_begins_69 : decode bMo_begins 69 = .ok (.iload_n 3, 1) := by decide +kernel
theorem dMo_begins_70 : decode bMo_begins 70 = .ok (.aload_n 0, 1) := by decide +kernel
theorem dMo_begins_71 : decode bMo_begins 71 = .ok (.getfield 290, 3) := by decide +kernel
theorem dMo_begins_74 : decode bMo_begins 74 = .ok (.getfield 183, 3) := by decide +kernel
theorem dMo_begins_77 : decode bMo_begins 77 = .ok (.imul, 1) := by decide +kernel
theorem dMo_begins_78 : decode bMo_begins 78 = .ok (.iconst 4, 1) := by decide +kernel
theorem dMo_begins_79 : decode bMo_begins 79 = .ok (.idiv, 1) := by decide +kernel
theorem dMo_begins_80 : decode bMo_begins 80 = .ok (.iastore, 1) := by decide +kernel
theorem dMo_begins_81 : decode bMo_begins 81 = .ok (.aload_n 1, 1) := by decide +kernel
theorem dMo_begins_82 : decode bMo_begins 82 = .ok (.bipush 20, 2) := by decide +kernel
theorem dMo_begins_84 : decode bMo_begins 84 = .ok (.aload_n 0, 1) := by decide +kernel
theorem dMo_begins_85 : decode bMo_begins 85 = .ok (.getfield 290, 3) := by decide +kernel
theorem dMo_begins_88 : decode bMo_begins 88 = .ok (.getfield 186, 3) := by decide +kernel
theorem dMo_begins_91 : decode bMo_begins 91 = .ok (.iconst 2, 1) := by decide +kernel
theorem dMo_begins_92 : decode bMo_begins 92 = .ok (.idiv, 1) := by decide +kernel
theorem dMo_begins_93 : decode bMo_begins 93 = .ok (.iastore, 1) := by decide +kernel
theorem dMo_begins_94 : decode bMo_begins 94 = .ok (.return_, 1) := by decide +kernel
theorem dMo_byProgram_0 : decode bMo_byProgram 0 = .ok (.aload_n 1, 1) := by decide +kernel
theorem dMo_byProgram_1 : decode bMo_byProgram 1 = .ok (.bipush 34, 2) := by decide +kernel
theorem dMo_byProgram_3 : decode bMo_byProgram 3 = .ok (.aload_n 0, 1) := by decide +kernel
theorem dMo_byProgram_4 : decode bMo_byProgram 4 = .ok (.getfield 27, 3) := by decide +kernel
theorem dMo_byProgram_7 : decode bMo_byProgram 7 = .ok (.iload_n 2, 1) := by decide +kernel
theorem dMo_byProgram_8 : decode bMo_byProgram 8 = .ok (.iaload, 1) := by decide +kernel
theorem dMo_byProgram_9 : decode bMo_byProgram 9 = .ok (.iastore, 1) := by decide +kernel
theorem dMo_byProgram_10 : decode bMo_byProgram 10 = .ok (.aload_n 1, 1) := by decide +kernel
theorem dMo_byProgram_11 : decode bMo_byProgram 11 = .ok (.bipush 35, 2) := by decide +kernel
theorem dMo_byProgram_13 : decode bMo_byProgram 13 = .ok (.aload_n 0, 1) := by decide +kernel
theorem dMo_byProgram_14 : decode bMo_byProgram 14 = .ok (.getfield 30, 3) := by decide +kernel
theorem dMo_byProgram_17 : decode bMo_byProgram 17 = .ok (.iload_n 2, 1) := by decide +kernel
theorem dMo_byProgram_18 : decode bMo_byProgram 18 = .ok (.iaload, 1) := by decide +kernel
theorem dMo_byProgram_19 : decode bMo_byProgram 19 = .ok (.iastore, 1) := by decide +kernel
theorem dMo_byProgram_20 : decode bMo_byProgram 20 = .ok (.aload_n 1, 1) := by decide +kernel
theorem dMo_byProgram_21 : decode bMo_byProgram 21 = .ok (.bipush 36, 2) := by decide +kernel
theorem dMo_byProgram_23 : decode bMo_byProgram 23 = .ok (.aload_n 0, 1) := by decide +kernel
theorem dMo_byProgram_24 : decode bMo_byProgram 24 = .ok (.getfield 33, 3) := by decide +kernel
theorem dMo_byProgram_27 : decode bMo_byProgram 27 = .ok (.iload_n 2, 1) := by decide +kernel
theorem dMo_byProgram_28 : decode bMo_byProgram 28 = .ok (.iaload, 1) := by decide +kernel
theorem dMo_byProgram_29 : decode bMo_byProgram 29 = .ok (.iastore, 1) := by decide +kernel
theorem dMo_byProgram_30 : decode bMo_byProgram 30 = .ok (.aload_n 0, 1) := by decide +kernel
theorem dMo_byProgram_31 : decode bMo_byProgram 31 = .ok (.aload_n 1, 1) := by decide +kernel
theorem dMo_byProgram_32 : decode bMo_byProgram 32 = .ok (.invokevirtual 332, 3) := by decide +kernel
theorem dMo_byProgram_35 : decode bMo_byProgram 35 = .ok (.return_, 1) := by decide +kernel
theorem dMo_valueOf_0 : decode bMo_valueOf 0 = .ok (.iload_n 1, 1) := by decide +kernel
theorem dMo_valueOf_1 : decode bMo_valueOf 1 = .ok (.ifCond .ne 10, 3) := by decide +kernel
theorem dMo_valueOf_4 : decode bMo_valueOf 4 = .ok (.aload_n 0, 1) := by decide +kernel
theorem dMo_valueOf_5 : decode bMo_valueOf 5 = .ok (.bipush 31, 2) := by decide +kernel
theorem dMo_valueOf_7 : decode bMo_valueOf 7 = .ok (.iaload, 1) := by decide +kernel
theorem dMo_valueOf_8 : decode bMo_valueOf 8 = .ok (.goto 23, 3) := by decide +kernel
theorem dMo_valueOf_11 : decode bMo_valueOf 11 = .ok (.iload_n 1, 1) := by decide +kernel
theorem dMo_valueOf_12 : decode bMo_valueOf 12 = .ok (.iconst 1, 1) := by decide +kernel
theorem dMo_valueOf_13 : decode bMo_valueOf 13 = .ok (.if_icmp .ne 10, 3) := by decide +kernel
theorem dMo_valueOf_16 : decode bMo_valueOf 16 = .ok (.aload_n 0, 1) := by decide +kernel
theorem dMo_valueOf_17 : decode bMo_valueOf 17 = .ok (.bipush 30, 2) := by decide +kernel
theorem dMo_valueOf_19 : decode bMo_valueOf 19 = .ok (.iaload, 1) := by decide +kernel
theorem dMo_valueOf_20 : decode bMo_valueOf 20 = .ok (.goto 11, 3) := by decide +kernel
theorem dMo_valueOf_23 : decode bMo_valueOf 23 = .ok (.aload_n 0, 1) := by decide +kernel
theorem dMo_valueOf_24 : decode bMo_valueOf 24 = .ok (.bipush 10, 2) := by decide +kernel
theorem dMo_valueOf_26 : decode bMo_valueOf 26 = .ok (.iload_n 1, 1) := by decide +kernel
theorem dMo_valueOf_27 : decode bMo_valueOf 27 = .ok (.iadd, 1) := by decide +kernel
theorem dMo_valueOf_28 : decode bMo_valueOf 28 = .ok (.iconst 2, 1) := by decide +kernel
theorem dMo_valueOf_29 : decode bMo_valueOf 29 = .ok (.isub, 1) := by decide +kernel
theorem dMo_valueOf_30 : decode bMo_valueOf 30 = .ok (.iaload, 1) := by decide +kernel
theorem dMo_valueOf_31 : decode bMo_valueOf 31 = .ok (.ireturn, 1) := by decide +kernel
theorem dMo_hourOf_0 : decode bMo_hourOf 0 = .ok (.aload_n 0, 1) := by decide +kernel
theorem dMo_hourOf_1 : decode bMo_hourOf 1 = .ok (.getfield 36, 3) := by decide +kernel
theorem dMo_hourOf_4 : decode bMo_hourOf 4 = .ok (.iload_n 1, 1) := by decide +kernel
theorem dMo_hourOf_5 : decode bMo_hourOf 5 = .ok (.iaload, 1) := by decide +kernel
theorem dMo_hourOf_6 : decode bMo_hourOf 6 = .ok (.istore 4, 2) := by decide +kernel
theorem dMo_hourOf_8 : decode bMo_hourOf 8 = .ok (.aload_n 0, 1) := by decide +kernel
theorem dMo_hourOf_9 : decode bMo_hourOf 9 = .ok (.getfield 39, 3) := by decide +kernel
theorem dMo_hourOf_12 : decode bMo_hourOf 12 = .ok (.iload_n 1, 1) := by decide +kernel
theorem dMo_hourOf_13 : decode bMo_hourOf 13 = .ok (.iaload, 1) := by decide +kernel
theorem dMo_hourOf_14 : decode bMo_hourOf 14 = .ok (.iconst 2, 1) := by decide +kernel
theorem dMo_hourOf_15 : decode bMo_hourOf 15 = .ok (.if_icmp .ge 6, 3) := by decide +kernel
theorem dMo_hourOf_18 : decode bMo_hourOf 18 = .ok (.iload 4, 2) := by decide +kernel
theorem dMo_hourOf_20 : decode bMo_hourOf 20 = .ok (.ireturn, 1) := by decide +kernel
theorem dMo_hourOf_21 : decode bMo_hourOf 21 = .ok (.iload 4, 2) := by decide +kernel
theorem dMo_hourOf_23 : decode bMo_hourOf 23 = .ok (.iload_n 2, 1) := by decide +kernel
theorem dMo_hourOf_24 : decode bMo_hourOf 24 = .ok (.if_icmp .ne 7, 3) := by decide +kernel
theorem dMo_hourOf_27 : decode bMo_hourOf 27 = .ok (.iload_n 3, 1) := by decide +kernel
theorem dMo_hourOf_28 : decode bMo_hourOf 28 = .ok (.goto 15, 3) := by decide +kernel
theorem dMo_hourOf_31 : decode bMo_hourOf 31 = .ok (.iload 4, 2) := by decide +kernel
theorem dMo_hourOf_33 : decode bMo_hourOf 33 = .ok (.iload_n 3, 1) := by decide +kernel
theorem dMo_hourOf_34 : decode bMo_hourOf 34 = .ok (.if_icmp .ne 7, 3) := by decide +kernel
theorem dMo_hourOf_37 : decode bMo_hourOf 37 = .ok (.iload_n 2, 1) := by decide +kernel
theorem dMo_hourOf_38 : decode bMo_hourOf 38 = .ok (.goto 5, 3) := by decide +kernel
theorem dMo_hourOf_41 : decode bMo_hourOf 41 = .ok (.iload 4, 2) := by decide +kernel
theorem dMo_hourOf_43 : decode bMo_hourOf 43 = .ok (.ireturn, 1) := by decide +kernel
theorem dMo_agrees_0 : decode bMo_agrees 0 = .ok (.aload_n 0, 1) := by decide +kernel
theorem dMo_agrees_1 : decode bMo_agrees 1 = .ok (.aload_n 0, 1) := by decide +kernel
theorem dMo_agrees_2 : decode bMo_agrees 2 = .ok (.getfield 21, 3) := by decide +kernel
theorem dMo_agrees_5 : decode bMo_agrees 5 = .ok (.iload_n 1, 1) := by decide +kernel
theorem dMo_agrees_6 : decode bMo_agrees 6 = .ok (.bipush 25, 2) := by decide +kernel
theorem dMo_agrees_8 : decode bMo_agrees 8 = .ok (.idiv, 1) := by decide +kernel
theorem dMo_agrees_9 : decode bMo_agrees 9 = .ok (.iload_n 1, 1) := by decide +kernel
theorem dMo_agrees_10 : decode bMo_agrees 10 = .ok (.iconst 5, 1) := by decide +kernel
theorem dMo_agrees_11 : decode bMo_agrees 11 = .ok (.idiv, 1) := by decide +kernel
theorem dMo_agrees_12 : decode bMo_agrees 12 = .ok (.iconst 5, 1) := by decide +kernel
theorem dMo_agrees_13 : decode bMo_agrees 13 = .ok (.irem, 1) := by decide +kernel
theorem dMo_agrees_14 : decode bMo_agrees 14 = .ok (.iload_n 1, 1) := by decide +kernel
theorem dMo_agrees_15 : decode bMo_agrees 15 = .ok (.iconst 5, 1) := by decide +kernel
theorem dMo_agrees_16 : decode bMo_agrees 16 = .ok (.irem, 1) := by decide +kernel
theorem dMo_agrees_17 : decode bMo_agrees 17 = .ok (.invokevirtual 343, 3) := by decide +kernel
theorem dMo_agrees_20 : decode bMo_agrees 20 = .ok (.iconst 0, 1) := by decide +kernel
theorem dMo_agrees_21 : decode bMo_agrees 21 = .ok (.istore 4, 2) := by decide +kernel
theorem dMo_agrees_23 : decode bMo_agrees 23 = .ok (.iload 4, 2) := by decide +kernel
theorem dMo_agrees_25 : decode bMo_agrees 25 = .ok (.bipush 12, 2) := by decide +kernel
theorem dMo_agrees_27 : decode bMo_agrees 27 = .ok (.if_icmp .ge 104, 3) := by decide +kernel
theorem dMo_agrees_30 : decode bMo_agrees 30 = .ok (.aload_n 0, 1) := by decide +kernel
theorem dMo_agrees_31 : decode bMo_agrees 31 = .ok (.aload_n 0, 1) := by decide +kernel
theorem dMo_agrees_32 : decode bMo_agrees 32 = .ok (.getfield 21, 3) := by decide +kernel
theorem dMo_agrees_35 : decode bMo_agrees 35 = .ok (.iload 4, 2) := by decide +kernel
theorem dMo_agrees_37 : decode bMo_agrees 37 = .ok (.invokevirtual 347, 3) := by decide +kernel
theorem dMo_agrees_40 : decode bMo_agrees 40 = .ok (.iconst 0, 1) := by decide +kernel
theorem dMo_agrees_41 : decode bMo_agrees 41 = .ok (.istore 5, 2) := by decide +kernel
theorem dMo_agrees_43 : decode bMo_agrees 43 = .ok (.iload 5, 2) := by decide +kernel
theorem dMo_agrees_45 : decode bMo_agrees 45 = .ok (.aload_n 0, 1) := by decide +kernel
theorem dMo_agrees_46 : decode bMo_agrees 46 = .ok (.getfield 293, 3) := by decide +kernel
theorem dMo_agrees_49 : decode bMo_agrees 49 = .ok (.if_icmp .ge 76, 3) := by decide +kernel
theorem dMo_agrees_52 : decode bMo_agrees 52 = .ok (.aload_n 0, 1) := by decide +kernel
theorem dMo_agrees_53 : decode bMo_agrees 53 = .ok (.iload 5, 2) := by decide +kernel
theorem dMo_agrees_55 : decode bMo_agrees 55 = .ok (.iload_n 2, 1) := by decide +kernel
theorem dMo_agrees_56 : decode bMo_agrees 56 = .ok (.iload_n 3, 1) := by decide +kernel
theorem dMo_agrees_57 : decode bMo_agrees 57 = .ok (.invokevirtual 351, 3) := by decide +kernel
theorem dMo_agrees_60 : decode bMo_agrees 60 = .ok (.iload 4, 2) := by decide +kernel
theorem dMo_agrees_62 : decode bMo_agrees 62 = .ok (.if_icmp .eq 6, 3) := by decide +kernel
theorem dMo_agrees_65 : decode bMo_agrees 65 = .ok (.goto 54, 3) := by decide +kernel
theorem dMo_agrees_68 : decode bMo_agrees 68 = .ok (.aload_n 0, 1) := by decide +kernel
theorem dMo_agrees_69 : decode bMo_agrees 69 = .ok (.getfield 21, 3) := by decide +kernel
theorem dMo_agrees_72 : decode bMo_agrees 72 = .ok (.aload_n 0, 1) := by decide +kernel
theorem dMo_agrees_73 : decode bMo_agrees 73 = .ok (.getfield 39, 3) := by decide +kernel
theorem dMo_agrees_76 : decode bMo_agrees 76 = .ok (.iload 5, 2) := by decide +kernel
theorem dMo_agrees_78 : decode bMo_agrees 78 = .ok (.iaload, 1) := by decide +kernel
theorem dMo_agrees_79 : decode bMo_agrees 79 = .ok (.invokestatic 354, 3) := by decide +kernel
theorem dMo_agrees_82 : decode bMo_agrees 82 = .ok (.aload_n 0, 1) := by decide +kernel
theorem dMo_agrees_83 : decode bMo_agrees 83 = .ok (.getfield 42, 3) := by decide +kernel
theorem dMo_agrees_86 : decode bMo_agrees 86 = .ok (.iload 5, 2) := by decide +kernel
theorem dMo_agrees_88 : decode bMo_agrees 88 = .ok (.iaload, 1) := by decide +kernel
theorem dMo_agrees_89 : decode bMo_agrees 89 = .ok (.isub, 1) := by decide +kernel
theorem dMo_agrees_90 : decode bMo_agrees 90 = .ok (.istore 6, 2) := by decide +kernel
theorem dMo_agrees_92 : decode bMo_agrees 92 = .ok (.iload 6, 2) := by decide +kernel
theorem dMo_agrees_94 : decode bMo_agrees 94 = .ok (.aload_n 0, 1) := by decide +kernel
theorem dMo_agrees_95 : decode bMo_agrees 95 = .ok (.getfield 45, 3) := by decide +kernel
theorem dMo_agrees_98 : decode bMo_agrees 98 = .ok (.iload 5, 2) := by decide +kernel
theorem dMo_agrees_100 : decode bMo_agrees 100 = .ok (.iaload, 1) := by decide +kernel
theorem dMo_agrees_101 : decode bMo_agrees 101 = .ok (.if_icmp .gt 16, 3) := by decide +kernel
theorem dMo_agrees_104 : decode bMo_agrees 104 = .ok (.iload 6, 2) := by decide +kernel
theorem dMo_agrees_106 : decode bMo_agrees 106 = .ok (.ineg, 1) := by decide +kernel
theorem dMo_agrees_107 : decode bMo_agrees 107 = .ok (.aload_n 0, 1) := by decide +kernel
theorem dMo_agrees_108 : decode bMo_agrees 108 = .ok (.getfield 45, 3) := by decide +kernel
theorem dMo_agrees_111 : decode bMo_agrees 111 = .ok (.iload 5, 2) := by decide +kernel
theorem dMo_agrees_113 : decode bMo_agrees 113 = .ok (.iaload, 1) := by decide +kernel
theorem dMo_agrees_114 : decode bMo_agrees 114 = .ok (.if_icmp .le 5, 3) := by decide +kernel
theorem dMo_agrees_117 : decode bMo_agrees 117 = .ok (.iconst 0, 1) := by decide +kernel
theorem dMo_agrees_118 : decode bMo_agrees 118 = .ok (.ireturn, 1) := by decide +kernel
theorem dMo_agrees_119 : decode bMo_agrees 119 = .ok (.iinc 5 1, 3) := by decide +kernel
theorem dMo_agrees_122 : decode bMo_agrees 122 = .ok (.goto (-79), 3) := by decide +kernel
theorem dMo_agrees_125 : decode bMo_agrees 125 = .ok (.iinc 4 1, 3) := by decide +kernel
theorem dMo_agrees_128 : decode bMo_agrees 128 = .ok (.goto (-105), 3) := by decide +kernel
theorem dMo_agrees_131 : decode bMo_agrees 131 = .ok (.iconst 1, 1) := by decide +kernel
theorem dMo_agrees_132 : decode bMo_agrees 132 = .ok (.ireturn, 1) := by decide +kernel
theorem dMo_allFits_0 : decode bMo_allFits 0 = .ok (.iconst 0, 1) := by decide +kernel
theorem dMo_allFits_1 : decode bMo_allFits 1 = .ok (.istore_n 3, 1) := by decide +kernel
theorem dMo_allFits_2 : decode bMo_allFits 2 = .ok (.iconst 0, 1) := by decide +kernel
theorem dMo_allFits_3 : decode bMo_allFits 3 = .ok (.istore 4, 2) := by decide +kernel
theorem dMo_allFits_5 : decode bMo_allFits 5 = .ok (.iload 4, 2) := by decide +kernel
theorem dMo_allFits_7 : decode bMo_allFits 7 = .ok (.bipush 100, 2) := by decide +kernel
theorem dMo_allFits_9 : decode bMo_allFits 9 = .ok (.if_icmp .ge 34, 3) := by decide +kernel
theorem dMo_allFits_12 : decode bMo_allFits 12 = .ok (.aload_n 0, 1) := by decide +kernel
theorem dMo_allFits_13 : decode bMo_allFits 13 = .ok (.iload 4, 2) := by decide +kernel
theorem dMo_allFits_15 : decode bMo_allFits 15 = .ok (.iload_n 1, 1) := by decide +kernel
theorem dMo_allFits_16 : decode bMo_allFits 16 = .ok (.iload_n 2, 1) := by decide +kernel
theorem dMo_allFits_17 : decode bMo_allFits 17 = .ok (.invokevirtual 357, 3) := by decide +kernel
theorem dMo_allFits_20 : decode bMo_allFits 20 = .ok (.ifCond .ne 6, 3) := by decide +kernel
theorem dMo_allFits_23 : decode bMo_allFits 23 = .ok (.goto 14, 3) := by decide +kernel
theorem dMo_allFits_26 : decode bMo_allFits 26 = .ok (.aload_n 0, 1) := by decide +kernel
theorem dMo_allFits_27 : decode bMo_allFits 27 = .ok (.getfield 48, 3) := by decide +kernel
theorem dMo_allFits_30 : decode bMo_allFits 30 = .ok (.iload_n 3, 1) := by decide +kernel
theorem dMo_allFits_31 : decode bMo_allFits 31 = .ok (.iload 4, 2) := by decide +kernel
theorem dMo_allFits_33 : decode bMo_allFits 33 = .ok (.iastore, 1) := by decide +kernel
theorem dMo_allFits_34 : decode bMo_allFits 34 = .ok (.iinc 3 1, 3) := by decide +kernel
theorem dMo_allFits_37 : decode bMo_allFits 37 = .ok (.iinc 4 1, 3) := by decide +kernel
theorem dMo_allFits_40 : decode bMo_allFits 40 = .ok (.goto (-35), 3) := by decide +kernel
theorem dMo_allFits_43 : decode bMo_allFits 43 = .ok (.iload_n 3, 1) := by decide +kernel
theorem dMo_allFits_44 : decode bMo_allFits 44 = .ok (.ireturn, 1) := by decide +kernel
theorem dMo_partOf_0 : decode bMo_partOf 0 = .ok (.iload_n 1, 1) := by decide +kernel
theorem dMo_partOf_1 : decode bMo_partOf 1 = .ok (.ifCond .ne 10, 3) := by decide +kernel
theorem dMo_partOf_4 : decode bMo_partOf 4 = .ok (.iload_n 0, 1) := by decide +kernel
theorem dMo_partOf_5 : decode bMo_partOf 5 = .ok (.bipush 25, 2) := by decide +kernel
theorem dMo_partOf_7 : decode bMo_partOf 7 = .ok (.idiv, 1) := by decide +kernel
theorem dMo_partOf_8 : decode bMo_partOf 8 = .ok (.goto 19, 3) := by decide +kernel
theorem dMo_partOf_11 : decode bMo_partOf 11 = .ok (.iload_n 1, 1) := by decide +kernel
theorem dMo_partOf_12 : decode bMo_partOf 12 = .ok (.iconst 1, 1) := by decide +kernel
theorem dMo_partOf_13 : decode bMo_partOf 13 = .ok (.if_icmp .ne 11, 3) := by decide +kernel
theorem dMo_partOf_16 : decode bMo_partOf 16 = .ok (.iload_n 0, 1) := by decide +kernel
theorem dMo_partOf_17 : decode bMo_partOf 17 = .ok (.iconst 5, 1) := by decide +kernel
theorem dMo_partOf_18 : decode bMo_partOf 18 = .ok (.idiv, 1) := by decide +kernel
theorem dMo_partOf_19 : decode bMo_partOf 19 = .ok (.iconst 5, 1) := by decide +kernel
theorem dMo_partOf_20 : decode bMo_partOf 20 = .ok (.irem, 1) := by decide +kernel
theorem dMo_partOf_21 : decode bMo_partOf 21 = .ok (.goto 6, 3) := by decide +kernel
theorem dMo_partOf_24 : decode bMo_partOf 24 = .ok (.iload_n 0, 1) := by decide +kernel
theorem dMo_partOf_25 : decode bMo_partOf 25 = .ok (.iconst 5, 1) := by decide +kernel
theorem dMo_partOf_26 : decode bMo_partOf 26 = .ok (.irem, 1) := by decide +kernel
theorem dMo_partOf_27 : decode bMo_partOf 27 = .ok (.ireturn, 1) := by decide +kernel
theorem dMo_fits_0 : decode bMo_fits 0 = .ok (.aload_n 0, 1) := by decide +kernel
theorem dMo_fits_1 : decode bMo_fits 1 = .ok (.iconst 0, 1) := by decide +kernel
theorem dMo_fits_2 : decode bMo_fits 2 = .ok (.putfield 73, 3) := by decide +kernel
theorem dMo_fits_5 : decode bMo_fits 5 = .ok (.aload_n 0, 1) := by decide +kernel
theorem dMo_fits_6 : decode bMo_fits 6 = .ok (.getfield 290, 3) := by decide +kernel
theorem dMo_fits_9 : decode bMo_fits 9 = .ok (.ifnonnull 11, 3) := by decide +kernel
theorem dMo_fits_12 : decode bMo_fits 12 = .ok (.aload_n 0, 1) := by decide +kernel
theorem dMo_fits_13 : decode bMo_fits 13 = .ok (.iconst 1, 1) := by decide +kernel
theorem dMo_fits_14 : decode bMo_fits 14 = .ok (.invokevirtual 283, 3) := by decide +kernel
theorem dMo_fits_17 : decode bMo_fits 17 = .ok (.goto 13, 3) := by decide +kernel
theorem dMo_fits_20 : decode bMo_fits 20 = .ok (.aload_n 0, 1) := by decide +kernel
theorem dMo_fits_21 : decode bMo_fits 21 = .ok (.aload_n 0, 1) := by decide +kernel
theorem dMo_fits_22 : decode bMo_fits 22 = .ok (.iconst (-1), 1) := by decide +kernel
theorem dMo_fits_23 : decode bMo_fits 23 = .ok (.iconst (-1), 1) := by decide +kernel
theorem dMo_fits_24 : decode bMo_fits 24 = .ok (.invokevirtual 360, 3) := by decide +kernel
theorem dMo_fits_27 : decode bMo_fits 27 = .ok (.invokevirtual 302, 3) := by decide +kernel
theorem dMo_fits_30 : decode bMo_fits 30 = .ok (.ireturn, 1) := by decide +kernel
theorem dMo_fitAt_0 : decode bMo_fitAt 0 = .ok (.aload_n 0, 1) := by decide +kernel
theorem dMo_fitAt_1 : decode bMo_fitAt 1 = .ok (.iconst 0, 1) := by decide +kernel
theorem dMo_fitAt_2 : decode bMo_fitAt 2 = .ok (.putfield 73, 3) := by decide +kernel
theorem dMo_fitAt_5 : decode bMo_fitAt 5 = .ok (.aload_n 0, 1) := by decide +kernel
theorem dMo_fitAt_6 : decode bMo_fitAt 6 = .ok (.getfield 290, 3) := by decide +kernel
theorem dMo_fitAt_9 : decode bMo_fitAt 9 = .ok (.ifnull 12, 3) := by decide +kernel
theorem dMo_fitAt_12 : decode bMo_fitAt 12 = .ok (.iload_n 2, 1) := by decide +kernel
theorem dMo_fitAt_13 : decode bMo_fitAt 13 = .ok (.iconst 0, 1) := by decide +kernel
theorem dMo_fitAt_14 : decode bMo_fitAt 14 = .ok (.iconst 2, 1) := by decide +kernel
theorem dMo_fitAt_15 : decode bMo_fitAt 15 = .ok (.invokestatic 149, 3) := by decide +kernel
theorem dMo_fitAt_18 : decode bMo_fitAt 18 = .ok (.ifCond .ne 9, 3) := by decide +kernel
theorem dMo_fitAt_21 : decode bMo_fitAt 21 = .ok (.aload_n 0, 1) := by decide +kernel
theorem dMo_fitAt_22 : decode bMo_fitAt 22 = .ok (.iconst 1, 1) := by decide +kernel
theorem dMo_fitAt_23 : decode bMo_fitAt 23 = .ok (.invokevirtual 283, 3) := by decide +kernel
theorem dMo_fitAt_26 : decode bMo_fitAt 26 = .ok (.ireturn, 1) := by decide +kernel
theorem dMo_fitAt_27 : decode bMo_fitAt 27 = .ok (.aload_n 0, 1) := by decide +kernel
theorem dMo_fitAt_28 : decode bMo_fitAt 28 = .ok (.iconst (-1), 1) := by decide +kernel
theorem dMo_fitAt_29 : decode bMo_fitAt 29 = .ok (.iconst (-1), 1) := by decide +kernel
theorem dMo_fitAt_30 : decode bMo_fitAt 30 = .ok (.invokevirtual 360, 3) := by decide +kernel
theorem dMo_fitAt_33 : decode bMo_fitAt 33 = .ok (.istore_n 3, 1) := by decide +kernel
theorem dMo_fitAt_34 : decode bMo_fitAt 34 = .ok (.iload_n 1, 1) := by decide +kernel
theorem dMo_fitAt_35 : decode bMo_fitAt 35 = .ok (.ifCond .lt 25, 3) := by decide +kernel
theorem dMo_fitAt_38 : decode bMo_fitAt 38 = .ok (.iload_n 1, 1) := by decide +kernel
theorem dMo_fitAt_39 : decode bMo_fitAt 39 = .ok (.iload_n 3, 1) := by decide +kernel
theorem dMo_fitAt_40 : decode bMo_fitAt 40 = .ok (.if_icmp .ge 20, 3) := by decide +kernel
theorem dMo_fitAt_43 : decode bMo_fitAt 43 = .ok (.aload_n 0, 1) := by decide +kernel
theorem dMo_fitAt_44 : decode bMo_fitAt 44 = .ok (.aload_n 0, 1) := by decide +kernel
theorem dMo_fitAt_45 : decode bMo_fitAt 45 = .ok (.getfield 48, 3) := by decide +kernel
theorem dMo_fitAt_48 : decode bMo_fitAt 48 = .ok (.iload_n 1, 1) := by decide +kernel
theorem dMo_fitAt_49 : decode bMo_fitAt 49 = .ok (.iaload, 1) := by decide +kernel
theorem dMo_fitAt_50 : decode bMo_fitAt 50 = .ok (.iload_n 2, 1) := by decide +kernel
theorem dMo_fitAt_51 : decode bMo_fitAt 51 = .ok (.invokestatic 363, 3) := by decide +kernel
theorem dMo_fitAt_54 : decode bMo_fitAt 54 = .ok (.invokevirtual 302, 3) := by decide +kernel
theorem dMo_fitAt_57 : decode bMo_fitAt 57 = .ok (.goto 8, 3) := by decide +kernel
theorem dMo_fitAt_60 : decode bMo_fitAt 60 = .ok (.aload_n 0, 1) := by decide +kernel
theorem dMo_fitAt_61 : decode bMo_fitAt 61 = .ok (.iconst 1, 1) := by decide +kernel
theorem dMo_fitAt_62 : decode bMo_fitAt 62 = .ok (.invokevirtual 283, 3) := by decide +kernel
theorem dMo_fitAt_65 : decode bMo_fitAt 65 = .ok (.ireturn, 1) := by decide +kernel
theorem dMo_certain_0 : decode bMo_certain 0 = .ok (.aload_n 0, 1) := by decide +kernel
theorem dMo_certain_1 : decode bMo_certain 1 = .ok (.iconst 0, 1) := by decide +kernel
theorem dMo_certain_2 : decode bMo_certain 2 = .ok (.putfield 73, 3) := by decide +kernel
theorem dMo_certain_5 : decode bMo_certain 5 = .ok (.aload_n 0, 1) := by decide +kernel
theorem dMo_certain_6 : decode bMo_certain 6 = .ok (.getfield 290, 3) := by decide +kernel
theorem dMo_certain_9 : decode bMo_certain 9 = .ok (.ifnull 12, 3) := by decide +kernel
theorem dMo_certain_12 : decode bMo_certain 12 = .ok (.iload_n 1, 1) := by decide +kernel
theorem dMo_certain_13 : decode bMo_certain 13 = .ok (.iconst 0, 1) := by decide +kernel
theorem dMo_certain_14 : decode bMo_certain 14 = .ok (.iconst 2, 1) := by decide +kernel
theorem dMo_certain_15 : decode bMo_certain 15 = .ok (.invokestatic 149, 3) := by decide +kernel
theorem dMo_certain_18 : decode bMo_certain 18 = .ok (.ifCond .ne 9, 3) := by decide +kernel
theorem dMo_certain_21 : decode bMo_certain 21 = .ok (.aload_n 0, 1) := by decide +kernel
theorem dMo_certain_22 : decode bMo_certain 22 = .ok (.iconst 1, 1) := by decide +kernel
theorem dMo_certain_23 : decode bMo_certain 23 = .ok (.invokevirtual 283, 3) := by decide +kernel
theorem dMo_certain_26 : decode bMo_certain 26 = .ok (.ireturn, 1) := by decide +kernel
theorem dMo_certain_27 : decode bMo_certain 27 = .ok (.aload_n 0, 1) := by decide +kernel
theorem dMo_certain_28 : decode bMo_certain 28 = .ok (.iconst (-1), 1) := by decide +kernel
theorem dMo_certain_29 : decode bMo_certain 29 = .ok (.iconst (-1), 1) := by decide +kernel
theorem dMo_certain_30 : decode bMo_certain 30 = .ok (.invokevirtual 360, 3) := by decide +kernel
theorem dMo_certain_33 : decode bMo_certain 33 = .ok (.istore_n 2, 1) := by decide +kernel
theorem dMo_certain_34 : decode bMo_certain 34 = .ok (.iload_n 2, 1) := by decide +kernel
theorem dMo_certain_35 : decode bMo_certain 35 = .ok (.ifCond .ne 10, 3) := by decide +kernel
theorem dMo_certain_38 : decode bMo_certain 38 = .ok (.aload_n 0, 1) := by decide +kernel
theorem dMo_certain_39 : decode bMo_certain 39 = .ok (.bipush 6, 2) := by decide +kernel
theorem dMo_certain_41 : decode bMo_certain 41 = .ok (.invokevirtual 283, 3) := by decide +kernel
theorem dMo_certain_44 : decode bMo_certain 44 = .ok (.ireturn, 1) := by decide +kernel
theorem dMo_certain_45 : decode bMo_certain 45 = .ok (.iconst 1, 1) := by decide +kernel
theorem dMo_certain_46 : decode bMo_certain 46 = .ok (.istore_n 3, 1) := by decide +kernel
theorem dMo_certain_47 : decode bMo_certain 47 = .ok (.iload_n 3, 1) := by decide +kernel
theorem dMo_certain_48 : decode bMo_certain 48 = .ok (.iload_n 2, 1) := by decide +kernel
theorem dMo_certain_49 : decode bMo_certain 49 = .ok (.if_icmp .ge 39, 3) := by decide +kernel
theorem dMo_certain_52 : decode bMo_certain 52 = .ok (.aload_n 0, 1) := by decide +kernel
theorem dMo_certain_53 : decode bMo_certain 53 = .ok (.getfield 48, 3) := by decide +kernel
theorem dMo_certain_56 : decode bMo_certain 56 = .ok (.iload_n 3, 1) := by decide +kernel
theorem dMo_certain_57 : decode bMo_certain 57 = .ok (.iaload, 1) := by decide +kernel
theorem dMo_certain_58 : decode bMo_certain 58 = .ok (.iload_n 1, 1) := by decide +kernel
theorem dMo_certain_59 : decode bMo_certain 59 = .ok (.invokestatic 363, 3) := by decide +kernel
theorem dMo_certain_62 : decode bMo_certain 62 = .ok (.aload_n 0, 1) := by decide +kernel
theorem dMo_certain_63 : decode bMo_certain 63 = .ok (.getfield 48, 3) := by decide +kernel
theorem dMo_certain_66 : decode bMo_certain 66 = .ok (.iconst 0, 1) := by decide +kernel
theorem dMo_certain_67 : decode bMo_certain 67 = .ok (.iaload, 1) := by decide +kernel
theorem dMo_certain_68 : decode bMo_certain 68 = .ok (.iload_n 1, 1) := by decide +kernel
theorem dMo_certain_69 : decode bMo_certain 69 = .ok (.invokestatic 363, 3) := by decide +kernel
theorem dMo_certain_72 : decode bMo_certain 72 = .ok (.if_icmp .eq 10, 3) := by decide +kernel
theorem dMo_certain_75 : decode bMo_certain 75 = .ok (.aload_n 0, 1) := by decide +kernel
theorem dMo_certain_76 : decode bMo_certain 76 = .ok (.bipush (-2), 2) := by decide +kernel
theorem dMo_certain_78 : decode bMo_certain 78 = .ok (.invokevirtual 302, 3) := by decide +kernel
theorem dMo_certain_81 : decode bMo_certain 81 = .ok (.ireturn, 1) := by decide +kernel
theorem dMo_certain_82 : decode bMo_certain 82 = .ok (.iinc 3 1, 3) := by decide +kernel
theorem dMo_certain_85 : decode bMo_certain 85 = .ok (.goto (-38), 3) := by decide +kernel
theorem dMo_certain_88 : decode bMo_certain 88 = .ok (.aload_n 0, 1) := by decide +kernel
theorem dMo_certain_89 : decode bMo_certain 89 = .ok (.aload_n 0, 1) := by decide +kernel
theorem dMo_certain_90 : decode bMo_certain 90 = .ok (.getfield 48, 3) := by decide +kernel
theorem dMo_certain_93 : decode bMo_certain 93 = .ok (.iconst 0, 1) := by decide +kernel
theorem dMo_certain_94 : decode bMo_certain 94 = .ok (.iaload, 1) := by decide +kernel
theorem dMo_certain_95 : decode bMo_certain 95 = .ok (.iload_n 1, 1) := by decide +kernel
theorem dMo_certain_96 : decode bMo_certain 96 = .ok (.invokestatic 363, 3) := by decide +kernel
theorem dMo_certain_99 : decode bMo_certain 99 = .ok (.invokevirtual 302, 3) := by decide +kernel
theorem dMo_certain_102 : decode bMo_certain 102 = .ok (.ireturn, 1) := by decide +kernel
theorem dMo_isStart_0 : decode bMo_isStart 0 = .ok (.iload_n 0, 1) := by decide +kernel
theorem dMo_isStart_1 : decode bMo_isStart 1 = .ok (.iconst 0, 1) := by decide +kernel
theorem dMo_isStart_2 : decode bMo_isStart 2 = .ok (.iconst 3, 1) := by decide +kernel
theorem dMo_isStart_3 : decode bMo_isStart 3 = .ok (.invokestatic 149, 3) := by decide +kernel
theorem dMo_isStart_6 : decode bMo_isStart 6 = .ok (.ifCond .eq 25, 3) := by decide +kernel
theorem dMo_isStart_9 : decode bMo_isStart 9 = .ok (.iload_n 1, 1) := by decide +kernel
theorem dMo_isStart_10 : decode bMo_isStart 10 = .ok (.iconst 0, 1) := by decide +kernel
theorem dMo_isStart_11 : decode bMo_isStart 11 = .ok (.iconst 4, 1) := by decide +kernel
theorem dMo_isStart_12 : decode bMo_isStart 12 = .ok (.invokestatic 149, 3) := by decide +kernel
theorem dMo_isStart_15 : decode bMo_isStart 15 = .ok (.ifCond .eq 16, 3) := by decide +kernel
theorem dMo_isStart_18 : decode bMo_isStart 18 = .ok (.iload_n 2, 1) := by decide +kernel
theorem dMo_isStart_19 : decode bMo_isStart 19 = .ok (.iconst 0, 1) := by decide +kernel
theorem dMo_isStart_20 : decode bMo_isStart 20 = .ok (.iconst 4, 1) := by decide +kernel
theorem dMo_isStart_21 : decode bMo_isStart 21 = .ok (.invokestatic 149, 3) := by decide +kernel
theorem dMo_isStart_24 : decode bMo_isStart 24 = .ok (.ifCond .eq 7, 3) := by decide +kernel
theorem dMo_isStart_27 : decode bMo_isStart 27 = .ok (.iconst 1, 1) := by decide +kernel
theorem dMo_isStart_28 : decode bMo_isStart 28 = .ok (.goto 4, 3) := by decide +kernel
theorem dMo_isStart_31 : decode bMo_isStart 31 = .ok (.iconst 0, 1) := by decide +kernel
theorem dMo_isStart_32 : decode bMo_isStart 32 = .ok (.ireturn, 1) := by decide +kernel
theorem dMo_guess_0 : decode bMo_guess 0 = .ok (.aload_n 0, 1) := by decide +kernel
theorem dMo_guess_1 : decode bMo_guess 1 = .ok (.iconst 0, 1) := by decide +kernel
theorem dMo_guess_2 : decode bMo_guess 2 = .ok (.putfield 73, 3) := by decide +kernel
theorem dMo_guess_5 : decode bMo_guess 5 = .ok (.aload_n 0, 1) := by decide +kernel
theorem dMo_guess_6 : decode bMo_guess 6 = .ok (.iload 4, 2) := by decide +kernel
theorem dMo_guess_8 : decode bMo_guess 8 = .ok (.iload 5, 2) := by decide +kernel
theorem dMo_guess_10 : decode bMo_guess 10 = .ok (.invokevirtual 338, 3) := by decide +kernel
theorem dMo_guess_13 : decode bMo_guess 13 = .ok (.ifCond .ne 9, 3) := by decide +kernel
theorem dMo_guess_16 : decode bMo_guess 16 = .ok (.aload_n 0, 1) := by decide +kernel
theorem dMo_guess_17 : decode bMo_guess 17 = .ok (.iconst 1, 1) := by decide +kernel
theorem dMo_guess_18 : decode bMo_guess 18 = .ok (.invokevirtual 283, 3) := by decide +kernel
theorem dMo_guess_21 : decode bMo_guess 21 = .ok (.ireturn, 1) := by decide +kernel
theorem dMo_guess_22 : decode bMo_guess 22 = .ok (.iload_n 1, 1) := by decide +kernel
theorem dMo_guess_23 : decode bMo_guess 23 = .ok (.iload_n 2, 1) := by decide +kernel
theorem dMo_guess_24 : decode bMo_guess 24 = .ok (.iload_n 3, 1) := by decide +kernel
theorem dMo_guess_25 : decode bMo_guess 25 = .ok (.invokestatic 366, 3) := by decide +kernel
theorem dMo_guess_28 : decode bMo_guess 28 = .ok (.ifCond .ne 9, 3) := by decide +kernel
theorem dMo_guess_31 : decode bMo_guess 31 = .ok (.aload_n 0, 1) := by decide +kernel
theorem dMo_guess_32 : decode bMo_guess 32 = .ok (.iconst 2, 1) := by decide +kernel
theorem dMo_guess_33 : decode bMo_guess 33 = .ok (.invokevirtual 283, 3) := by decide +kernel
theorem dMo_guess_36 : decode bMo_guess 36 = .ok (.ireturn, 1) := by decide +kernel
theorem dMo_guess_37 : decode bMo_guess 37 = .ok (.aload_n 0, 1) := by decide +kernel
theorem dMo_guess_38 : decode bMo_guess 38 = .ok (.aload_n 0, 1) := by decide +kernel
theorem dMo_guess_39 : decode bMo_guess 39 = .ok (.getfield 21, 3) := by decide +kernel
theorem dMo_guess_42 : decode bMo_guess 42 = .ok (.iload_n 1, 1) := by decide +kernel
theorem dMo_guess_43 : decode bMo_guess 43 = .ok (.iload_n 2, 1) := by decide +kernel
theorem dMo_guess_44 : decode bMo_guess 44 = .ok (.iload_n 3, 1) := by decide +kernel
theorem dMo_guess_45 : decode bMo_guess 45 = .ok (.invokevirtual 343, 3) := by decide +kernel
theorem dMo_guess_48 : decode bMo_guess 48 = .ok (.iconst 0, 1) := by decide +kernel
theorem dMo_guess_49 : decode bMo_guess 49 = .ok (.istore 6, 2) := by decide +kernel
theorem dMo_guess_51 : decode bMo_guess 51 = .ok (.iload 6, 2) := by decide +kernel
theorem dMo_guess_53 : decode bMo_guess 53 = .ok (.iload 4, 2) := by decide +kernel
theorem dMo_guess_55 : decode bMo_guess 55 = .ok (.if_icmp .gt 19, 3) := by decide +kernel
theorem dMo_guess_58 : decode bMo_guess 58 = .ok (.aload_n 0, 1) := by decide +kernel
theorem dMo_guess_59 : decode bMo_guess 59 = .ok (.aload_n 0, 1) := by decide +kernel
theorem dMo_guess_60 : decode bMo_guess 60 = .ok (.getfield 21, 3) := by decide +kernel
theorem dMo_guess_63 : decode bMo_guess 63 = .ok (.iload 6, 2) := by decide +kernel
theorem dMo_guess_65 : decode bMo_guess 65 = .ok (.invokevirtual 347, 3) := by decide +kernel
theorem dMo_guess_68 : decode bMo_guess 68 = .ok (.iinc 6 1, 3) := by decide +kernel
theorem dMo_guess_71 : decode bMo_guess 71 = .ok (.goto (-20), 3) := by decide +kernel
theorem dMo_guess_74 : decode bMo_guess 74 = .ok (.aload_n 0, 1) := by decide +kernel
theorem dMo_guess_75 : decode bMo_guess 75 = .ok (.aload_n 0, 1) := by decide +kernel
theorem dMo_guess_76 : decode bMo_guess 76 = .ok (.getfield 21, 3) := by decide +kernel
theorem dMo_guess_79 : decode bMo_guess 79 = .ok (.iload 5, 2) := by decide +kernel
theorem dMo_guess_81 : decode bMo_guess 81 = .ok (.invokestatic 354, 3) := by decide +kernel
theorem dMo_guess_84 : decode bMo_guess 84 = .ok (.invokevirtual 302, 3) := by decide +kernel
theorem dMo_guess_87 : decode bMo_guess 87 = .ok (.ireturn, 1) := by decide +kernel
theorem dMo_swapped_0 : decode bMo_swapped 0 = .ok (.aload_n 0, 1) := by decide +kernel
theorem dMo_swapped_1 : decode bMo_swapped 1 = .ok (.iconst 0, 1) := by decide +kernel
theorem dMo_swapped_2 : decode bMo_swapped 2 = .ok (.putfield 73, 3) := by decide +kernel
theorem dMo_swapped_5 : decode bMo_swapped 5 = .ok (.aload_n 0, 1) := by decide +kernel
theorem dMo_swapped_6 : decode bMo_swapped 6 = .ok (.getfield 290, 3) := by decide +kernel
theorem dMo_swapped_9 : decode bMo_swapped 9 = .ok (.ifnonnull 9, 3) := by decide +kernel
theorem dMo_swapped_12 : decode bMo_swapped 12 = .ok (.aload_n 0, 1) := by decide +kernel
theorem dMo_swapped_13 : decode bMo_swapped 13 = .ok (.iconst 1, 1) := by decide +kernel
theorem dMo_swapped_14 : decode bMo_swapped 14 = .ok (.invokevirtual 283, 3) := by decide +kernel
theorem dMo_swapped_17 : decode bMo_swapped 17 = .ok (.ireturn, 1) := by decide +kernel
theorem dMo_swapped_18 : decode bMo_swapped 18 = .ok (.aload_n 0, 1) := by decide +kernel
theorem dMo_swapped_19 : decode bMo_swapped 19 = .ok (.iconst (-1), 1) := by decide +kernel
theorem dMo_swapped_20 : decode bMo_swapped 20 = .ok (.iconst (-1), 1) := by decide +kernel
theorem dMo_swapped_21 : decode bMo_swapped 21 = .ok (.invokevirtual 360, 3) := by decide +kernel
theorem dMo_swapped_24 : decode bMo_swapped 24 = .ok (.ifCond .le 9, 3) := by decide +kernel
theorem dMo_swapped_27 : decode bMo_swapped 27 = .ok (.aload_n 0, 1) := by decide +kernel
theorem dMo_swapped_28 : decode bMo_swapped 28 = .ok (.iconst 5, 1) := by decide +kernel
theorem dMo_swapped_29 : decode bMo_swapped 29 = .ok (.invokevirtual 283, 3) := by decide +kernel
theorem dMo_swapped_32 : decode bMo_swapped 32 = .ok (.ireturn, 1) := by decide +kernel
theorem dMo_swapped_33 : decode bMo_swapped 33 = .ok (.iconst 0, 1) := by decide +kernel
theorem dMo_swapped_34 : decode bMo_swapped 34 = .ok (.istore_n 1, 1) := by decide +kernel
theorem dMo_swapped_35 : decode bMo_swapped 35 = .ok (.iload_n 1, 1) := by decide +kernel
theorem dMo_swapped_36 : decode bMo_swapped 36 = .ok (.bipush 12, 2) := by decide +kernel
theorem dMo_swapped_38 : decode bMo_swapped 38 = .ok (.if_icmp .ge 45, 3) := by decide +kernel
theorem dMo_swapped_41 : decode bMo_swapped 41 = .ok (.iload_n 1, 1) := by decide +kernel
theorem dMo_swapped_42 : decode bMo_swapped 42 = .ok (.iconst 1, 1) := by decide +kernel
theorem dMo_swapped_43 : decode bMo_swapped 43 = .ok (.iadd, 1) := by decide +kernel
theorem dMo_swapped_44 : decode bMo_swapped 44 = .ok (.istore_n 2, 1) := by decide +kernel
theorem dMo_swapped_45 : decode bMo_swapped 45 = .ok (.iload_n 2, 1) := by decide +kernel
theorem dMo_swapped_46 : decode bMo_swapped 46 = .ok (.bipush 12, 2) := by decide +kernel
theorem dMo_swapped_48 : decode bMo_swapped 48 = .ok (.if_icmp .ge 29, 3) := by decide +kernel
theorem dMo_swapped_51 : decode bMo_swapped 51 = .ok (.aload_n 0, 1) := by decide +kernel
theorem dMo_swapped_52 : decode bMo_swapped 52 = .ok (.iload_n 1, 1) := by decide +kernel
theorem dMo_swapped_53 : decode bMo_swapped 53 = .ok (.iload_n 2, 1) := by decide +kernel
theorem dMo_swapped_54 : decode bMo_swapped 54 = .ok (.invokevirtual 360, 3) := by decide +kernel
theorem dMo_swapped_57 : decode bMo_swapped 57 = .ok (.ifCond .le 14, 3) := by decide +kernel
theorem dMo_swapped_60 : decode bMo_swapped 60 = .ok (.aload_n 0, 1) := by decide +kernel
theorem dMo_swapped_61 : decode bMo_swapped 61 = .ok (.bipush 100, 2) := by decide +kernel
theorem dMo_swapped_63 : decode bMo_swapped 63 = .ok (.iload_n 1, 1) := by decide +kernel
theorem dMo_swapped_64 : decode bMo_swapped 64 = .ok (.imul, 1) := by decide +kernel
theorem dMo_swapped_65 : decode bMo_swapped 65 = .ok (.iload_n 2, 1) := by decide +kernel
theorem dMo_swapped_66 : decode bMo_swapped 66 = .ok (.iadd, 1) := by decide +kernel
theorem dMo_swapped_67 : decode bMo_swapped 67 = .ok (.invokevirtual 302, 3) := by decide +kernel
theorem dMo_swapped_70 : decode bMo_swapped 70 = .ok (.ireturn, 1) := by decide +kernel
theorem dMo_swapped_71 : decode bMo_swapped 71 = .ok (.iinc 2 1, 3) := by decide +kernel
theorem dMo_swapped_74 : decode bMo_swapped 74 = .ok (.goto (-29), 3) := by decide +kernel
theorem dMo_swapped_77 : decode bMo_swapped 77 = .ok (.iinc 1 1, 3) := by decide +kernel
theorem dMo_swapped_80 : decode bMo_swapped 80 = .ok (.goto (-45), 3) := by decide +kernel
theorem dMo_swapped_83 : decode bMo_swapped 83 = .ok (.aload_n 0, 1) := by decide +kernel
theorem dMo_swapped_84 : decode bMo_swapped 84 = .ok (.bipush (-2), 2) := by decide +kernel
theorem dMo_swapped_86 : decode bMo_swapped 86 = .ok (.invokevirtual 302, 3) := by decide +kernel
theorem dMo_swapped_89 : decode bMo_swapped 89 = .ok (.ireturn, 1) := by decide +kernel
theorem dMo_copies_0 : decode bMo_copies 0 = .ok (.iconst 0, 1) := by decide +kernel
theorem dMo_copies_1 : decode bMo_copies 1 = .ok (.istore_n 1, 1) := by decide +kernel
theorem dMo_copies_2 : decode bMo_copies 2 = .ok (.iload_n 1, 1) := by decide +kernel
theorem dMo_copies_3 : decode bMo_copies 3 = .ok (.bipush 37, 2) := by decide +kernel
theorem dMo_copies_5 : decode bMo_copies 5 = .ok (.if_icmp .ge 21, 3) := by decide +kernel
theorem dMo_copies_8 : decode bMo_copies 8 = .ok (.aload_n 0, 1) := by decide +kernel
theorem dMo_copies_9 : decode bMo_copies 9 = .ok (.getfield 21, 3) := by decide +kernel
theorem dMo_copies_12 : decode bMo_copies 12 = .ok (.iload_n 1, 1) := by decide +kernel
theorem dMo_copies_13 : decode bMo_copies 13 = .ok (.aload_n 0, 1) := by decide +kernel
theorem dMo_copies_14 : decode bMo_copies 14 = .ok (.getfield 17, 3) := by decide +kernel
theorem dMo_copies_17 : decode bMo_copies 17 = .ok (.iload_n 1, 1) := by decide +kernel
theorem dMo_copies_18 : decode bMo_copies 18 = .ok (.iaload, 1) := by decide +kernel
theorem dMo_copies_19 : decode bMo_copies 19 = .ok (.iastore, 1) := by decide +kernel
theorem dMo_copies_20 : decode bMo_copies 20 = .ok (.iinc 1 1, 3) := by decide +kernel
theorem dMo_copies_23 : decode bMo_copies 23 = .ok (.goto (-21), 3) := by decide +kernel
theorem dMo_copies_26 : decode bMo_copies 26 = .ok (.return_, 1) := by decide +kernel
theorem dMo_isWell_0 : decode bMo_isWell 0 = .ok (.aload_n 0, 1) := by decide +kernel
theorem dMo_isWell_1 : decode bMo_isWell 1 = .ok (.invokevirtual 369, 3) := by decide +kernel
theorem dMo_isWell_4 : decode bMo_isWell 4 = .ok (.iconst 0, 1) := by decide +kernel
theorem dMo_isWell_5 : decode bMo_isWell 5 = .ok (.istore_n 3, 1) := by decide +kernel
theorem dMo_isWell_6 : decode bMo_isWell 6 = .ok (.iload_n 3, 1) := by decide +kernel
theorem dMo_isWell_7 : decode bMo_isWell 7 = .ok (.iload_n 1, 1) := by decide +kernel
theorem dMo_isWell_8 : decode bMo_isWell 8 = .ok (.if_icmp .ge 77, 3) := by decide +kernel
theorem dMo_isWell_11 : decode bMo_isWell 11 = .ok (.aload_n 0, 1) := by decide +kernel
theorem dMo_isWell_12 : decode bMo_isWell 12 = .ok (.getfield 54, 3) := by decide +kernel
theorem dMo_isWell_15 : decode bMo_isWell 15 = .ok (.iload_n 3, 1) := by decide +kernel
theorem dMo_isWell_16 : decode bMo_isWell 16 = .ok (.iload_n 2, 1) := by decide +kernel
theorem dMo_isWell_17 : decode bMo_isWell 17 = .ok (.iconst 2, 1) := by decide +kernel
theorem dMo_isWell_18 : decode bMo_isWell 18 = .ok (.iload_n 1, 1) := by decide +kernel
theorem dMo_isWell_19 : decode bMo_isWell 19 = .ok (.iconst 1, 1) := by decide +kernel
theorem dMo_isWell_20 : decode bMo_isWell 20 = .ok (.isub, 1) := by decide +kernel
theorem dMo_isWell_21 : decode bMo_isWell 21 = .ok (.iload_n 3, 1) := by decide +kernel
theorem dMo_isWell_22 : decode bMo_isWell 22 = .ok (.isub, 1) := by decide +kernel
theorem dMo_isWell_23 : decode bMo_isWell 23 = .ok (.imul, 1) := by decide +kernel
theorem dMo_isWell_24 : decode bMo_isWell 24 = .ok (.ishr, 1) := by decide +kernel
theorem dMo_isWell_25 : decode bMo_isWell 25 = .ok (.iconst 3, 1) := by decide +kernel
theorem dMo_isWell_26 : decode bMo_isWell 26 = .ok (.iand, 1) := by decide +kernel
theorem dMo_isWell_27 : decode bMo_isWell 27 = .ok (.iastore, 1) := by decide +kernel
theorem dMo_isWell_28 : decode bMo_isWell 28 = .ok (.aload_n 0, 1) := by decide +kernel
theorem dMo_isWell_29 : decode bMo_isWell 29 = .ok (.getfield 21, 3) := by decide +kernel
theorem dMo_isWell_32 : decode bMo_isWell 32 = .ok (.bipush 34, 2) := by decide +kernel
theorem dMo_isWell_34 : decode bMo_isWell 34 = .ok (.aload_n 0, 1) := by decide +kernel
theorem dMo_isWell_35 : decode bMo_isWell 35 = .ok (.getfield 54, 3) := by decide +kernel
theorem dMo_isWell_38 : decode bMo_isWell 38 = .ok (.iload_n 3, 1) := by decide +kernel
theorem dMo_isWell_39 : decode bMo_isWell 39 = .ok (.iaload, 1) := by decide +kernel
theorem dMo_isWell_40 : decode bMo_isWell 40 = .ok (.iastore, 1) := by decide +kernel
theorem dMo_isWell_41 : decode bMo_isWell 41 = .ok (.aload_n 0, 1) := by decide +kernel
theorem dMo_isWell_42 : decode bMo_isWell 42 = .ok (.aload_n 0, 1) := by decide +kernel
theorem dMo_isWell_43 : decode bMo_isWell 43 = .ok (.getfield 21, 3) := by decide +kernel
theorem dMo_isWell_46 : decode bMo_isWell 46 = .ok (.invokevirtual 332, 3) := by decide +kernel
theorem dMo_isWell_49 : decode bMo_isWell 49 = .ok (.aload_n 0, 1) := by decide +kernel
theorem dMo_isWell_50 : decode bMo_isWell 50 = .ok (.getfield 21, 3) := by decide +kernel
theorem dMo_isWell_53 : decode bMo_isWell 53 = .ok (.bipush 26, 2) := by decide +kernel
theorem dMo_isWell_55 : decode bMo_isWell 55 = .ok (.iaload, 1) := by decide +kernel
theorem dMo_isWell_56 : decode bMo_isWell 56 = .ok (.iconst 1, 1) := by decide +kernel
theorem dMo_isWell_57 : decode bMo_isWell 57 = .ok (.if_icmp .eq 20, 3) := by decide +kernel
theorem dMo_isWell_60 : decode bMo_isWell 60 = .ok (.aload_n 0, 1) := by decide +kernel
theorem dMo_isWell_61 : decode bMo_isWell 61 = .ok (.getfield 21, 3) := by decide +kernel
theorem dMo_isWell_64 : decode bMo_isWell 64 = .ok (.bipush 23, 2) := by decide +kernel
theorem dMo_isWell_66 : decode bMo_isWell 66 = .ok (.iaload, 1) := by decide +kernel
theorem dMo_isWell_67 : decode bMo_isWell 67 = .ok (.aload_n 0, 1) := by decide +kernel
theorem dMo_isWell_68 : decode bMo_isWell 68 = .ok (.getfield 17, 3) := by decide +kernel
theorem dMo_isWell_71 : decode bMo_isWell 71 = .ok (.bipush 23, 2) := by decide +kernel
theorem dMo_isWell_73 : decode bMo_isWell 73 = .ok (.iaload, 1) := by decide +kernel
theorem dMo_isWell_74 : decode bMo_isWell 74 = .ok (.if_icmp .eq 5, 3) := by decide +kernel
theorem dMo_isWell_77 : decode bMo_isWell 77 = .ok (.iconst 0, 1) := by decide +kernel
theorem dMo_isWell_78 : decode bMo_isWell 78 = .ok (.ireturn, 1) := by decide +kernel
theorem dMo_isWell_79 : decode bMo_isWell 79 = .ok (.iinc 3 1, 3) := by decide +kernel
theorem dMo_isWell_82 : decode bMo_isWell 82 = .ok (.goto (-76), 3) := by decide +kernel
theorem dMo_isWell_85 : decode bMo_isWell 85 = .ok (.iconst 1, 1) := by decide +kernel
theorem dMo_isWell_86 : decode bMo_isWell 86 = .ok (.ireturn, 1) := by decide +kernel
theorem dMo_plan_0 : decode bMo_plan 0 = .ok (.aload_n 0, 1) := by decide +kernel
theorem dMo_plan_1 : decode bMo_plan 1 = .ok (.iconst 0, 1) := by decide +kernel
theorem dMo_plan_2 : decode bMo_plan 2 = .ok (.putfield 73, 3) := by decide +kernel
theorem dMo_plan_5 : decode bMo_plan 5 = .ok (.aload_n 0, 1) := by decide +kernel
theorem dMo_plan_6 : decode bMo_plan 6 = .ok (.getfield 290, 3) := by decide +kernel
theorem dMo_plan_9 : decode bMo_plan 9 = .ok (.ifnonnull 9, 3) := by decide +kernel
theorem dMo_plan_12 : decode bMo_plan 12 = .ok (.aload_n 0, 1) := by decide +kernel
theorem dMo_plan_13 : decode bMo_plan 13 = .ok (.iconst 1, 1) := by decide +kernel
theorem dMo_plan_14 : decode bMo_plan 14 = .ok (.invokevirtual 283, 3) := by decide +kernel
theorem dMo_plan_17 : decode bMo_plan 17 = .ok (.ireturn, 1) := by decide +kernel
theorem dMo_plan_18 : decode bMo_plan 18 = .ok (.iload_n 1, 1) := by decide +kernel
theorem dMo_plan_19 : decode bMo_plan 19 = .ok (.iconst 1, 1) := by decide +kernel
theorem dMo_plan_20 : decode bMo_plan 20 = .ok (.iconst 5, 1) := by decide +kernel
theorem dMo_plan_21 : decode bMo_plan 21 = .ok (.invokestatic 149, 3) := by decide +kernel
theorem dMo_plan_24 : decode bMo_plan 24 = .ok (.ifCond .ne 9, 3) := by decide +kernel
theorem dMo_plan_27 : decode bMo_plan 27 = .ok (.aload_n 0, 1) := by decide +kernel
theorem dMo_plan_28 : decode bMo_plan 28 = .ok (.iconst 2, 1) := by decide +kernel
theorem dMo_plan_29 : decode bMo_plan 29 = .ok (.invokevirtual 283, 3) := by decide +kernel
theorem dMo_plan_32 : decode bMo_plan 32 = .ok (.ireturn, 1) := by decide +kernel
theorem dMo_plan_33 : decode bMo_plan 33 = .ok (.iconst (-1), 1) := by decide +kernel
theorem dMo_plan_34 : decode bMo_plan 34 = .ok (.istore_n 2, 1) := by decide +kernel
theorem dMo_plan_35 : decode bMo_plan 35 = .ok (.iconst 0, 1) := by decide +kernel
theorem dMo_plan_36 : decode bMo_plan 36 = .ok (.istore_n 3, 1) := by decide +kernel
theorem dMo_plan_37 : decode bMo_plan 37 = .ok (.iconst 0, 1) := by decide +kernel
theorem dMo_plan_38 : decode bMo_plan 38 = .ok (.istore 4, 2) := by decide +kernel
theorem dMo_plan_40 : decode bMo_plan 40 = .ok (.iload 4, 2) := by decide +kernel
theorem dMo_plan_42 : decode bMo_plan 42 = .ok (.iconst 1, 1) := by decide +kernel
theorem dMo_plan_43 : decode bMo_plan 43 = .ok (.iconst 2, 1) := by decide +kernel
theorem dMo_plan_44 : decode bMo_plan 44 = .ok (.iload_n 1, 1) := by decide +kernel
theorem dMo_plan_45 : decode bMo_plan 45 = .ok (.imul, 1) := by decide +kernel
theorem dMo_plan_46 : decode bMo_plan 46 = .ok (.ishl, 1) := by decide +kernel
theorem dMo_plan_47 : decode bMo_plan 47 = .ok (.if_icmp .ge 59, 3) := by decide +kernel
theorem dMo_plan_50 : decode bMo_plan 50 = .ok (.aload_n 0, 1) := by decide +kernel
theorem dMo_plan_51 : decode bMo_plan 51 = .ok (.iload_n 1, 1) := by decide +kernel
theorem dMo_plan_52 : decode bMo_plan 52 = .ok (.iload 4, 2) := by decide +kernel
theorem dMo_plan_54 : decode bMo_plan 54 = .ok (.invokevirtual 372, 3) := by decide +kernel
theorem dMo_plan_57 : decode bMo_plan 57 = .ok (.ifCond .ne 6, 3) := by decide +kernel
theorem dMo_plan_60 : decode bMo_plan 60 = .ok (.goto 40, 3) := by decide +kernel
theorem dMo_plan_63 : decode bMo_plan 63 = .ok (.aload_n 0, 1) := by decide +kernel
theorem dMo_plan_64 : decode bMo_plan 64 = .ok (.getfield 21, 3) := by decide +kernel
theorem dMo_plan_67 : decode bMo_plan 67 = .ok (.bipush 32, 2) := by decide +kernel
theorem dMo_plan_69 : decode bMo_plan 69 = .ok (.iaload, 1) := by decide +kernel
theorem dMo_plan_70 : decode bMo_plan 70 = .ok (.aload_n 0, 1) := by decide +kernel
theorem dMo_plan_71 : decode bMo_plan 71 = .ok (.getfield 17, 3) := by decide +kernel
theorem dMo_plan_74 : decode bMo_plan 74 = .ok (.bipush 32, 2) := by decide +kernel
theorem dMo_plan_76 : decode bMo_plan 76 = .ok (.iaload, 1) := by decide +kernel
theorem dMo_plan_77 : decode bMo_plan 77 = .ok (.isub, 1) := by decide +kernel
theorem dMo_plan_78 : decode bMo_plan 78 = .ok (.istore 5, 2) := by decide +kernel
theorem dMo_plan_80 : decode bMo_plan 80 = .ok (.iload_n 2, 1) := by decide +kernel
theorem dMo_plan_81 : decode bMo_plan 81 = .ok (.iconst (-1), 1) := by decide +kernel
theorem dMo_plan_82 : decode bMo_plan 82 = .ok (.if_icmp .eq 12, 3) := by decide +kernel
theorem dMo_plan_85 : decode bMo_plan 85 = .ok (.iload 5, 2) := by decide +kernel
theorem dMo_plan_87 : decode bMo_plan 87 = .ok (.iload_n 2, 1) := by decide +kernel
theorem dMo_plan_88 : decode bMo_plan 88 = .ok (.if_icmp .lt 6, 3) := by decide +kernel
theorem dMo_plan_91 : decode bMo_plan 91 = .ok (.goto 9, 3) := by decide +kernel
theorem dMo_plan_94 : decode bMo_plan 94 = .ok (.iload 5, 2) := by decide +kernel
theorem dMo_plan_96 : decode bMo_plan 96 = .ok (.istore_n 2, 1) := by decide +kernel
theorem dMo_plan_97 : decode bMo_plan 97 = .ok (.iload 4, 2) := by decide +kernel
theorem dMo_plan_99 : decode bMo_plan 99 = .ok (.istore_n 3, 1) := by decide +kernel
theorem dMo_plan_100 : decode bMo_plan 100 = .ok (.iinc 4 1, 3) := by decide +kernel
theorem dMo_plan_103 : decode bMo_plan 103 = .ok (.goto (-63), 3) := by decide +kernel
theorem dMo_plan_106 : decode bMo_plan 106 = .ok (.iload_n 2, 1) := by decide +kernel
theorem dMo_plan_107 : decode bMo_plan 107 = .ok (.iconst (-1), 1) := by decide +kernel
theorem dMo_plan_108 : decode bMo_plan 108 = .ok (.if_icmp .ne 10, 3) := by decide +kernel
theorem dMo_plan_111 : decode bMo_plan 111 = .ok (.aload_n 0, 1) := by decide +kernel
theorem dMo_plan_112 : decode bMo_plan 112 = .ok (.bipush 6, 2) := by decide +kernel
theorem dMo_plan_114 : decode bMo_plan 114 = .ok (.invokevirtual 283, 3) := by decide +kernel
theorem dMo_plan_117 : decode bMo_plan 117 = .ok (.ireturn, 1) := by decide +kernel
theorem dMo_plan_118 : decode bMo_plan 118 = .ok (.aload_n 0, 1) := by decide +kernel
theorem dMo_plan_119 : decode bMo_plan 119 = .ok (.iload_n 1, 1) := by decide +kernel
theorem dMo_plan_120 : decode bMo_plan 120 = .ok (.putfield 296, 3) := by decide +kernel
theorem dMo_plan_123 : decode bMo_plan 123 = .ok (.iconst 0, 1) := by decide +kernel
theorem dMo_plan_124 : decode bMo_plan 124 = .ok (.istore 4, 2) := by decide +kernel
theorem dMo_plan_126 : decode bMo_plan 126 = .ok (.iload 4, 2) := by decide +kernel
theorem dMo_plan_128 : decode bMo_plan 128 = .ok (.iload_n 1, 1) := by decide +kernel
theorem dMo_plan_129 : decode bMo_plan 129 = .ok (.if_icmp .ge 28, 3) := by decide +kernel
theorem dMo_plan_132 : decode bMo_plan 132 = .ok (.aload_n 0, 1) := by decide +kernel
theorem dMo_plan_133 : decode bMo_plan 133 = .ok (.getfield 51, 3) := by decide +kernel
theorem dMo_plan_136 : decode bMo_plan 136 = .ok (.iload 4, 2) := by decide +kernel
theorem dMo_plan_138 : decode bMo_plan 138 = .ok (.iload_n 3, 1) := by decide +kernel
theorem dMo_plan_139 : decode bMo_plan 139 = .ok (.iconst 2, 1) := by decide +kernel
theorem dMo_plan_140 : decode bMo_plan 140 = .ok (.iload_n 1, 1) := by decide +kernel
theorem dMo_plan_141 : decode bMo_plan 141 = .ok (.iconst 1, 1) := by decide +kernel
theorem dMo_plan_142 : decode bMo_plan 142 = .ok (.isub, 1) := by decide +kernel
theorem dMo_plan_143 : decode bMo_plan 143 = .ok (.iload 4, 2) := by decide +kernel
theorem dMo_plan_145 : decode bMo_plan 145 = .ok (.isub, 1) := by decide +kernel
theorem dMo_plan_146 : decode bMo_plan 146 = .ok (.imul, 1) := by decide +kernel
theorem dMo_plan_147 : decode bMo_plan 147 = .ok (.ishr, 1) := by decide +kernel
theorem dMo_plan_148 : decode bMo_plan 148 = .ok (.iconst 3, 1) := by decide +kernel
theorem dMo_plan_149 : decode bMo_plan 149 = .ok (.iand, 1) := by decide +kernel
theorem dMo_plan_150 : decode bMo_plan 150 = .ok (.iastore, 1) := by decide +kernel
theorem dMo_plan_151 : decode bMo_plan 151 = .ok (.iinc 4 1, 3) := by decide +kernel
theorem dMo_plan_154 : decode bMo_plan 154 = .ok (.goto (-28), 3) := by decide +kernel
theorem dMo_plan_157 : decode bMo_plan 157 = .ok (.aload_n 0, 1) := by decide +kernel
theorem dMo_plan_158 : decode bMo_plan 158 = .ok (.iload_n 2, 1) := by decide +kernel
theorem dMo_plan_159 : decode bMo_plan 159 = .ok (.invokevirtual 302, 3) := by decide +kernel
theorem dMo_plan_162 : decode bMo_plan 162 = .ok (.ireturn, 1) := by decide +kernel
theorem dMo_rate_0 : decode bMo_rate 0 = .ok (.aload_n 0, 1) := by decide +kernel
theorem dMo_rate_1 : decode bMo_rate 1 = .ok (.iconst 0, 1) := by decide +kernel
theorem dMo_rate_2 : decode bMo_rate 2 = .ok (.putfield 73, 3) := by decide +kernel
theorem dMo_rate_5 : decode bMo_rate 5 = .ok (.iload_n 1, 1) := by decide +kernel
theorem dMo_rate_6 : decode bMo_rate 6 = .ok (.ifCond .lt 20, 3) := by decide +kernel
theorem dMo_rate_9 : decode bMo_rate 9 = .ok (.iload_n 1, 1) := by decide +kernel
theorem dMo_rate_10 : decode bMo_rate 10 = .ok (.aload_n 0, 1) := by decide +kernel
theorem dMo_rate_11 : decode bMo_rate 11 = .ok (.getfield 296, 3) := by decide +kernel
theorem dMo_rate_14 : decode bMo_rate 14 = .ok (.if_icmp .ge 12, 3) := by decide +kernel
theorem dMo_rate_17 : decode bMo_rate 17 = .ok (.aload_n 0, 1) := by decide +kernel
theorem dMo_rate_18 : decode bMo_rate 18 = .ok (.getfield 51, 3) := by decide +kernel
theorem dMo_rate_21 : decode bMo_rate 21 = .ok (.iload_n 1, 1) := by decide +kernel
theorem dMo_rate_22 : decode bMo_rate 22 = .ok (.iaload, 1) := by decide +kernel
theorem dMo_rate_23 : decode bMo_rate 23 = .ok (.goto 4, 3) := by decide +kernel
theorem dMo_rate_26 : decode bMo_rate 26 = .ok (.iconst (-1), 1) := by decide +kernel
theorem dMo_rate_27 : decode bMo_rate 27 = .ok (.ireturn, 1) := by decide +kernel
theorem dMo_rules_0 : decode bMo_rules 0 = .ok (.aload_n 0, 1) := by decide +kernel
theorem dMo_rules_1 : decode bMo_rules 1 = .ok (.invokevirtual 369, 3) := by decide +kernel
theorem dMo_rules_4 : decode bMo_rules 4 = .ok (.iconst 0, 1) := by decide +kernel
theorem dMo_rules_5 : decode bMo_rules 5 = .ok (.istore_n 2, 1) := by decide +kernel
theorem dMo_rules_6 : decode bMo_rules 6 = .ok (.iload_n 2, 1) := by decide +kernel
theorem dMo_rules_7 : decode bMo_rules 7 = .ok (.iload_n 1, 1) := by decide +kernel
theorem dMo_rules_8 : decode bMo_rules 8 = .ok (.if_icmp .ge 133, 3) := by decide +kernel
theorem dMo_rules_11 : decode bMo_rules 11 = .ok (.iconst (-1), 1) := by decide +kernel
theorem dMo_rules_12 : decode bMo_rules 12 = .ok (.istore_n 3, 1) := by decide +kernel
theorem dMo_rules_13 : decode bMo_rules 13 = .ok (.iconst 0, 1) := by decide +kernel
theorem dMo_rules_14 : decode bMo_rules 14 = .ok (.istore 4, 2) := by decide +kernel
theorem dMo_rules_16 : decode bMo_rules 16 = .ok (.iload 4, 2) := by decide +kernel
theorem dMo_rules_18 : decode bMo_rules 18 = .ok (.iconst 3, 1) := by decide +kernel
theorem dMo_rules_19 : decode bMo_rules 19 = .ok (.if_icmp .gt 91, 3) := by decide +kernel
theorem dMo_rules_22 : decode bMo_rules 22 = .ok (.iload_n 3, 1) := by decide +kernel
theorem dMo_rules_23 : decode bMo_rules 23 = .ok (.iconst (-1), 1) := by decide +kernel
theorem dMo_rules_24 : decode bMo_rules 24 = .ok (.if_icmp .ne 86, 3) := by decide +kernel
theorem dMo_rules_27 : decode bMo_rules 27 = .ok (.iconst 0, 1) := by decide +kernel
theorem dMo_rules_28 : decode bMo_rules 28 = .ok (.istore 5, 2) := by decide +kernel
theorem dMo_rules_30 : decode bMo_rules 30 = .ok (.iload 5, 2) := by decide +kernel
theorem dMo_rules_32 : decode bMo_rules 32 = .ok (.bipush 37, 2) := by decide +kernel
theorem dMo_rules_34 : decode bMo_rules 34 = .ok (.if_icmp .ge 23, 3) := by decide +kernel
theorem dMo_rules_37 : decode bMo_rules 37 = .ok (.aload_n 0, 1) := by decide +kernel
theorem dMo_rules_38 : decode bMo_rules 38 = .ok (.getfield 57, 3) := by decide +kernel
theorem dMo_rules_41 : decode bMo_rules 41 = .ok (.iload 5, 2) := by decide +kernel
theorem dMo_rules_43 : decode bMo_rules 43 = .ok (.aload_n 0, 1) := by decide +kernel
theorem dMo_rules_44 : decode bMo_rules 44 = .ok (.getfield 21, 3) := by decide +kernel
theorem dMo_rules_47 : decode bMo_rules 47 = .ok (.iload 5, 2) := by decide +kernel
theorem dMo_rules_49 : decode bMo_rules 49 = .ok (.iaload, 1) := by decide +kernel
theorem dMo_rules_50 : decode bMo_rules 50 = .ok (.iastore, 1) := by decide +kernel
theorem dMo_rules_51 : decode bMo_rules 51 = .ok (.iinc 5 1, 3) := by decide +kernel
theorem dMo_rules_54 : decode bMo_rules 54 = .ok (.goto (-24), 3) := by decide +kernel
theorem dMo_rules_57 : decode bMo_rules 57 = .ok (.aload_n 0, 1) := by decide +kernel
theorem dMo_rules_58 : decode bMo_rules 58 = .ok (.getfield 57, 3) := by decide +kernel
theorem dMo_rules_61 : decode bMo_rules 61 = .ok (.bipush 34, 2) := by decide +kernel
theorem dMo_rules_63 : decode bMo_rules 63 = .ok (.iload 4, 2) := by decide +kernel
theorem dMo_rules_65 : decode bMo_rules 65 = .ok (.iastore, 1) := by decide +kernel
theorem dMo_rules_66 : decode bMo_rules 66 = .ok (.aload_n 0, 1) := by decide +kernel
theorem dMo_rules_67 : decode bMo_rules 67 = .ok (.aload_n 0, 1) := by decide +kernel
theorem dMo_rules_68 : decode bMo_rules 68 = .ok (.getfield 57, 3) := by decide +kernel
theorem dMo_rules_71 : decode bMo_rules 71 = .ok (.invokevirtual 332, 3) := by decide +kernel
theorem dMo_rules_74 : decode bMo_rules 74 = .ok (.aload_n 0, 1) := by decide +kernel
theorem dMo_rules_75 : decode bMo_rules 75 = .ok (.getfield 57, 3) := by decide +kernel
theorem dMo_rules_78 : decode bMo_rules 78 = .ok (.bipush 26, 2) := by decide +kernel
theorem dMo_rules_80 : decode bMo_rules 80 = .ok (.iaload, 1) := by decide +kernel
theorem dMo_rules_81 : decode bMo_rules 81 = .ok (.ifCond .ne 23, 3) := by decide +kernel
theorem dMo_rules_84 : decode bMo_rules 84 = .ok (.aload_n 0, 1) := by decide +kernel
theorem dMo_rules_85 : decode bMo_rules 85 = .ok (.getfield 57, 3) := by decide +kernel
theorem dMo_rules_88 : decode bMo_rules 88 = .ok (.bipush 23, 2) := by decide +kernel
theorem dMo_rules_90 : decode bMo_rules 90 = .ok (.iaload, 1) := by decide +kernel
theorem dMo_rules_91 : decode bMo_rules 91 = .ok (.aload_n 0, 1) := by decide +kernel
theorem dMo_rules_92 : decode bMo_rules 92 = .ok (.getfield 21, 3) := by decide +kernel
theorem dMo_rules_95 : decode bMo_rules 95 = .ok (.bipush 23, 2) := by decide +kernel
theorem dMo_rules_97 : decode bMo_rules 97 = .ok (.iaload, 1) := by decide +kernel
theorem dMo_rules_98 : decode bMo_rules 98 = .ok (.if_icmp .ne 6, 3) := by decide +kernel
theorem dMo_rules_101 : decode bMo_rules 101 = .ok (.iload 4, 2) := by decide +kernel
theorem dMo_rules_103 : decode bMo_rules 103 = .ok (.istore_n 3, 1) := by decide +kernel
theorem dMo_rules_104 : decode bMo_rules 104 = .ok (.iinc 4 1, 3) := by decide +kernel
theorem dMo_rules_107 : decode bMo_rules 107 = .ok (.goto (-91), 3) := by decide +kernel
theorem dMo_rules_110 : decode bMo_rules 110 = .ok (.aload_n 0, 1) := by decide +kernel
theorem dMo_rules_111 : decode bMo_rules 111 = .ok (.getfield 21, 3) := by decide +kernel
theorem dMo_rules_114 : decode bMo_rules 114 = .ok (.bipush 34, 2) := by decide +kernel
theorem dMo_rules_116 : decode bMo_rules 116 = .ok (.iload_n 3, 1) := by decide +kernel
theorem dMo_rules_117 : decode bMo_rules 117 = .ok (.iconst (-1), 1) := by decide +kernel
theorem dMo_rules_118 : decode bMo_rules 118 = .ok (.if_icmp .ne 7, 3) := by decide +kernel
theorem dMo_rules_121 : decode bMo_rules 121 = .ok (.iconst 0, 1) := by decide +kernel
theorem dMo_rules_122 : decode bMo_rules 122 = .ok (.goto 4, 3) := by decide +kernel
theorem dMo_rules_125 : decode bMo_rules 125 = .ok (.iload_n 3, 1) := by decide +kernel
theorem dMo_rules_126 : decode bMo_rules 126 = .ok (.iastore, 1) := by decide +kernel
theorem dMo_rules_127 : decode bMo_rules 127 = .ok (.aload_n 0, 1) := by decide +kernel
theorem dMo_rules_128 : decode bMo_rules 128 = .ok (.aload_n 0, 1) := by decide +kernel
theorem dMo_rules_129 : decode bMo_rules 129 = .ok (.getfield 21, 3) := by decide +kernel
theorem dMo_rules_132 : decode bMo_rules 132 = .ok (.invokevirtual 332, 3) := by decide +kernel
theorem dMo_rules_135 : decode bMo_rules 135 = .ok (.iinc 2 1, 3) := by decide +kernel
theorem dMo_rules_138 : decode bMo_rules 138 = .ok (.goto (-132), 3) := by decide +kernel
theorem dMo_rules_141 : decode bMo_rules 141 = .ok (.return_, 1) := by decide +kernel
theorem dMo_rule_0 : decode bMo_rule 0 = .ok (.aload_n 0, 1) := by decide +kernel
theorem dMo_rule_1 : decode bMo_rule 1 = .ok (.iconst 0, 1) := by decide +kernel
theorem dMo_rule_2 : decode bMo_rule 2 = .ok (.putfield 73, 3) := by decide +kernel
theorem dMo_rule_5 : decode bMo_rule 5 = .ok (.aload_n 0, 1) := by decide +kernel
theorem dMo_rule_6 : decode bMo_rule 6 = .ok (.getfield 290, 3) := by decide +kernel
theorem dMo_rule_9 : decode bMo_rule 9 = .ok (.ifnonnull 9, 3) := by decide +kernel
theorem dMo_rule_12 : decode bMo_rule 12 = .ok (.aload_n 0, 1) := by decide +kernel
theorem dMo_rule_13 : decode bMo_rule 13 = .ok (.iconst 1, 1) := by decide +kernel
theorem dMo_rule_14 : decode bMo_rule 14 = .ok (.invokevirtual 283, 3) := by decide +kernel
theorem dMo_rule_17 : decode bMo_rule 17 = .ok (.ireturn, 1) := by decide +kernel
theorem dMo_rule_18 : decode bMo_rule 18 = .ok (.iload_n 1, 1) := by decide +kernel
theorem dMo_rule_19 : decode bMo_rule 19 = .ok (.iconst 1, 1) := by decide +kernel
theorem dMo_rule_20 : decode bMo_rule 20 = .ok (.iconst 5, 1) := by decide +kernel
theorem dMo_rule_21 : decode bMo_rule 21 = .ok (.invokestatic 149, 3) := by decide +kernel
theorem dMo_rule_24 : decode bMo_rule 24 = .ok (.ifCond .ne 9, 3) := by decide +kernel
theorem dMo_rule_27 : decode bMo_rule 27 = .ok (.aload_n 0, 1) := by decide +kernel
theorem dMo_rule_28 : decode bMo_rule 28 = .ok (.iconst 2, 1) := by decide +kernel
theorem dMo_rule_29 : decode bMo_rule 29 = .ok (.invokevirtual 283, 3) := by decide +kernel
theorem dMo_rule_32 : decode bMo_rule 32 = .ok (.ireturn, 1) := by decide +kernel
theorem dMo_rule_33 : decode bMo_rule 33 = .ok (.aload_n 0, 1) := by decide +kernel
theorem dMo_rule_34 : decode bMo_rule 34 = .ok (.iload_n 1, 1) := by decide +kernel
theorem dMo_rule_35 : decode bMo_rule 35 = .ok (.invokevirtual 375, 3) := by decide +kernel
theorem dMo_rule_38 : decode bMo_rule 38 = .ok (.aload_n 0, 1) := by decide +kernel
theorem dMo_rule_39 : decode bMo_rule 39 = .ok (.aload_n 0, 1) := by decide +kernel
theorem dMo_rule_40 : decode bMo_rule 40 = .ok (.getfield 21, 3) := by decide +kernel
theorem dMo_rule_43 : decode bMo_rule 43 = .ok (.bipush 32, 2) := by decide +kernel
theorem dMo_rule_45 : decode bMo_rule 45 = .ok (.iaload, 1) := by decide +kernel
theorem dMo_rule_46 : decode bMo_rule 46 = .ok (.aload_n 0, 1) := by decide +kernel
theorem dMo_rule_47 : decode bMo_rule 47 = .ok (.getfield 17, 3) := by decide +kernel
theorem dMo_rule_50 : decode bMo_rule 50 = .ok (.bipush 32, 2) := by decide +kernel
theorem dMo_rule_52 : decode bMo_rule 52 = .ok (.iaload, 1) := by decide +kernel
theorem dMo_rule_53 : decode bMo_rule 53 = .ok (.isub, 1) := by decide +kernel
theorem dMo_rule_54 : decode bMo_rule 54 = .ok (.invokevirtual 302, 3) := by decide +kernel
theorem dMo_rule_57 : decode bMo_rule 57 = .ok (.ireturn, 1) := by decide +kernel
theorem dMo_lacks_0 : decode bMo_lacks 0 = .ok (.aload_n 0, 1) := by decide +kernel
theorem dMo_lacks_1 : decode bMo_lacks 1 = .ok (.iconst 0, 1) := by decide +kernel
theorem dMo_lacks_2 : decode bMo_lacks 2 = .ok (.putfield 73, 3) := by decide +kernel
theorem dMo_lacks_5 : decode bMo_lacks 5 = .ok (.aload_n 0, 1) := by decide +kernel
theorem dMo_lacks_6 : decode bMo_lacks 6 = .ok (.getfield 290, 3) := by decide +kernel
theorem dMo_lacks_9 : decode bMo_lacks 9 = .ok (.ifnonnull 9, 3) := by decide +kernel
theorem dMo_lacks_12 : decode bMo_lacks 12 = .ok (.aload_n 0, 1) := by decide +kernel
theorem dMo_lacks_13 : decode bMo_lacks 13 = .ok (.iconst 1, 1) := by decide +kernel
theorem dMo_lacks_14 : decode bMo_lacks 14 = .ok (.invokevirtual 283, 3) := by decide +kernel
theorem dMo_lacks_17 : decode bMo_lacks 17 = .ok (.ireturn, 1) := by decide +kernel
theorem dMo_lacks_18 : decode bMo_lacks 18 = .ok (.iload_n 1, 1) := by decide +kernel
theorem dMo_lacks_19 : decode bMo_lacks 19 = .ok (.iconst 1, 1) := by decide +kernel
theorem dMo_lacks_20 : decode bMo_lacks 20 = .ok (.iconst 5, 1) := by decide +kernel
theorem dMo_lacks_21 : decode bMo_lacks 21 = .ok (.invokestatic 149, 3) := by decide +kernel
theorem dMo_lacks_24 : decode bMo_lacks 24 = .ok (.ifCond .ne 9, 3) := by decide +kernel
theorem dMo_lacks_27 : decode bMo_lacks 27 = .ok (.aload_n 0, 1) := by decide +kernel
theorem dMo_lacks_28 : decode bMo_lacks 28 = .ok (.iconst 2, 1) := by decide +kernel
theorem dMo_lacks_29 : decode bMo_lacks 29 = .ok (.invokevirtual 283, 3) := by decide +kernel
theorem dMo_lacks_32 : decode bMo_lacks 32 = .ok (.ireturn, 1) := by decide +kernel
theorem dMo_lacks_33 : decode bMo_lacks 33 = .ok (.aload_n 0, 1) := by decide +kernel
theorem dMo_lacks_34 : decode bMo_lacks 34 = .ok (.iload_n 1, 1) := by decide +kernel
theorem dMo_lacks_35 : decode bMo_lacks 35 = .ok (.invokevirtual 375, 3) := by decide +kernel
theorem dMo_lacks_38 : decode bMo_lacks 38 = .ok (.aload_n 0, 1) := by decide +kernel
theorem dMo_lacks_39 : decode bMo_lacks 39 = .ok (.aload_n 0, 1) := by decide +kernel
theorem dMo_lacks_40 : decode bMo_lacks 40 = .ok (.getfield 21, 3) := by decide +kernel
theorem dMo_lacks_43 : decode bMo_lacks 43 = .ok (.bipush 23, 2) := by decide +kernel
theorem dMo_lacks_45 : decode bMo_lacks 45 = .ok (.iaload, 1) := by decide +kernel
theorem dMo_lacks_46 : decode bMo_lacks 46 = .ok (.aload_n 0, 1) := by decide +kernel
theorem dMo_lacks_47 : decode bMo_lacks 47 = .ok (.getfield 17, 3) := by decide +kernel
theorem dMo_lacks_50 : decode bMo_lacks 50 = .ok (.bipush 23, 2) := by decide +kernel
theorem dMo_lacks_52 : decode bMo_lacks 52 = .ok (.iaload, 1) := by decide +kernel
theorem dMo_lacks_53 : decode bMo_lacks 53 = .ok (.isub, 1) := by decide +kernel
theorem dMo_lacks_54 : decode bMo_lacks 54 = .ok (.invokevirtual 302, 3) := by decide +kernel
theorem dMo_lacks_57 : decode bMo_lacks 57 = .ok (.ireturn, 1) := by decide +kernel
theorem dMo_number_0 : decode bMo_number 0 = .ok (.aload_n 0, 1) := by decide +kernel
theorem dMo_number_1 : decode bMo_number 1 = .ok (.iconst 0, 1) := by decide +kernel
theorem dMo_number_2 : decode bMo_number 2 = .ok (.putfield 73, 3) := by decide +kernel
theorem dMo_number_5 : decode bMo_number 5 = .ok (.aload_n 0, 1) := by decide +kernel
theorem dMo_number_6 : decode bMo_number 6 = .ok (.getfield 290, 3) := by decide +kernel
theorem dMo_number_9 : decode bMo_number 9 = .ok (.ifnonnull 9, 3) := by decide +kernel
theorem dMo_number_12 : decode bMo_number 12 = .ok (.aload_n 0, 1) := by decide +kernel
theorem dMo_number_13 : decode bMo_number 13 = .ok (.iconst 1, 1) := by decide +kernel
theorem dMo_number_14 : decode bMo_number 14 = .ok (.invokevirtual 283, 3) := by decide +kernel
theorem dMo_number_17 : decode bMo_number 17 = .ok (.ireturn, 1) := by decide +kernel
theorem dMo_number_18 : decode bMo_number 18 = .ok (.iload_n 2, 1) := by decide +kernel
theorem dMo_number_19 : decode bMo_number 19 = .ok (.iconst 0, 1) := by decide +kernel
theorem dMo_number_20 : decode bMo_number 20 = .ok (.sipush 999, 3) := by decide +kernel
theorem dMo_number_23 : decode bMo_number 23 = .ok (.invokestatic 149, 3) := by decide +kernel
theorem dMo_number_26 : decode bMo_number 26 = .ok (.ifCond .ne 9, 3) := by decide +kernel
theorem dMo_number_29 : decode bMo_number 29 = .ok (.aload_n 0, 1) := by decide +kernel
theorem dMo_number_30 : decode bMo_number 30 = .ok (.iconst 2, 1) := by decide +kernel
theorem dMo_number_31 : decode bMo_number 31 = .ok (.invokevirtual 283, 3) := by decide +kernel
theorem dMo_number_34 : decode bMo_number 34 = .ok (.ireturn, 1) := by decide +kernel
theorem dMo_number_35 : decode bMo_number 35 = .ok (.iload_n 1, 1) := by decide +kernel
theorem dMo_number_36 : decode bMo_number 36 = .ok (.ifCond .eq 7, 3) := by decide +kernel
theorem dMo_number_39 : decode bMo_number 39 = .ok (.iconst 1, 1) := by decide +kernel
theorem dMo_number_40 : decode bMo_number 40 = .ok (.goto 4, 3) := by decide +kernel
theorem dMo_number_43 : decode bMo_number 43 = .ok (.iconst 0, 1) := by decide +kernel
theorem dMo_number_44 : decode bMo_number 44 = .ok (.istore_n 3, 1) := by decide +kernel
theorem dMo_number_45 : decode bMo_number 45 = .ok (.aload_n 0, 1) := by decide +kernel
theorem dMo_number_46 : decode bMo_number 46 = .ok (.getfield 60, 3) := by decide +kernel
theorem dMo_number_49 : decode bMo_number 49 = .ok (.iload_n 3, 1) := by decide +kernel
theorem dMo_number_50 : decode bMo_number 50 = .ok (.iaload, 1) := by decide +kernel
theorem dMo_number_51 : decode bMo_number 51 = .ok (.bipush 8, 2) := by decide +kernel
theorem dMo_number_53 : decode bMo_number 53 = .ok (.if_icmp .ne 9, 3) := by decide +kernel
theorem dMo_number_56 : decode bMo_number 56 = .ok (.aload_n 0, 1) := by decide +kernel
theorem dMo_number_57 : decode bMo_number 57 = .ok (.iconst 3, 1) := by decide +kernel
theorem dMo_number_58 : decode bMo_number 58 = .ok (.invokevirtual 283, 3) := by decide +kernel
theorem dMo_number_61 : decode bMo_number 61 = .ok (.ireturn, 1) := by decide +kernel
theorem dMo_number_62 : decode bMo_number 62 = .ok (.aload_n 0, 1) := by decide +kernel
theorem dMo_number_63 : decode bMo_number 63 = .ok (.getfield 63, 3) := by decide +kernel
theorem dMo_number_66 : decode bMo_number 66 = .ok (.bipush 8, 2) := by decide +kernel
theorem dMo_number_68 : decode bMo_number 68 = .ok (.iload_n 3, 1) := by decide +kernel
theorem dMo_number_69 : decode bMo_number 69 = .ok (.imul, 1) := by decide +kernel
theorem dMo_number_70 : decode bMo_number 70 = .ok (.aload_n 0, 1) := by decide +kernel
theorem dMo_number_71 : decode bMo_number 71 = .ok (.getfield 60, 3) := by decide +kernel
theorem dMo_number_74 : decode bMo_number 74 = .ok (.iload_n 3, 1) := by decide +kernel
theorem dMo_number_75 : decode bMo_number 75 = .ok (.iaload, 1) := by decide +kernel
theorem dMo_number_76 : decode bMo_number 76 = .ok (.iadd, 1) := by decide +kernel
theorem dMo_number_77 : decode bMo_number 77 = .ok (.iload_n 2, 1) := by decide +kernel
theorem dMo_number_78 : decode bMo_number 78 = .ok (.iastore, 1) := by decide +kernel
theorem dMo_number_79 : decode bMo_number 79 = .ok (.aload_n 0, 1) := by decide +kernel
theorem dMo_number_80 : decode bMo_number 80 = .ok (.getfield 60, 3) := by decide +kernel
theorem dMo_number_83 : decode bMo_number 83 = .ok (.iload_n 3, 1) := by decide +kernel
theorem dMo_number_84 : decode bMo_number 84 = .ok (.dup2, 1) := by decide +kernel
theorem dMo_number_85 : decode bMo_number 85 = .ok (.iaload, 1) := by decide +kernel
theorem dMo_number_86 : decode bMo_number 86 = .ok (.iconst 1, 1) := by decide +kernel
theorem dMo_number_87 : decode bMo_number 87 = .ok (.iadd, 1) := by decide +kernel
theorem dMo_number_88 : decode bMo_number 88 = .ok (.iastore, 1) := by decide +kernel
theorem dMo_number_89 : decode bMo_number 89 = .ok (.aload_n 0, 1) := by decide +kernel
theorem dMo_number_90 : decode bMo_number 90 = .ok (.aload_n 0, 1) := by decide +kernel
theorem dMo_number_91 : decode bMo_number 91 = .ok (.getfield 60, 3) := by decide +kernel
theorem dMo_number_94 : decode bMo_number 94 = .ok (.iload_n 3, 1) := by decide +kernel
theorem dMo_number_95 : decode bMo_number 95 = .ok (.iaload, 1) := by decide +kernel
theorem dMo_number_96 : decode bMo_number 96 = .ok (.invokevirtual 302, 3) := by decide +kernel
theorem dMo_number_99 : decode bMo_number 99 = .ok (.ireturn, 1) := by decide +kernel
theorem dMo_bits_0 : decode bMo_bits 0 = .ok (.iconst 0, 1) := by decide +kernel
theorem dMo_bits_1 : decode bMo_bits 1 = .ok (.istore_n 1, 1) := by decide +kernel
theorem dMo_bits_2 : decode bMo_bits 2 = .ok (.iload_n 0, 1) := by decide +kernel
theorem dMo_bits_3 : decode bMo_bits 3 = .ok (.istore_n 2, 1) := by decide +kernel
theorem dMo_bits_4 : decode bMo_bits 4 = .ok (.iload_n 2, 1) := by decide +kernel
theorem dMo_bits_5 : decode bMo_bits 5 = .ok (.ifCond .eq 15, 3) := by decide +kernel
theorem dMo_bits_8 : decode bMo_bits 8 = .ok (.iinc 1 1, 3) := by decide +kernel
theorem dMo_bits_11 : decode bMo_bits 11 = .ok (.iload_n 2, 1) := by decide +kernel
theorem dMo_bits_12 : decode bMo_bits 12 = .ok (.iload_n 2, 1) := by decide +kernel
theorem dMo_bits_13 : decode bMo_bits 13 = .ok (.iconst 1, 1) := by decide +kernel
theorem dMo_bits_14 : decode bMo_bits 14 = .ok (.isub, 1) := by decide +kernel
theorem dMo_bits_15 : decode bMo_bits 15 = .ok (.iand, 1) := by decide +kernel
theorem dMo_bits_16 : decode bMo_bits 16 = .ok (.istore_n 2, 1) := by decide +kernel
theorem dMo_bits_17 : decode bMo_bits 17 = .ok (.goto (-13), 3) := by decide +kernel
theorem dMo_bits_20 : decode bMo_bits 20 = .ok (.iload_n 1, 1) := by decide +kernel
theorem dMo_bits_21 : decode bMo_bits 21 = .ok (.ireturn, 1) := by decide +kernel
theorem dMo_splitsFrom_0 : decode bMo_splitsFrom 0 = .ok (.aload_n 0, 1) := by decide +kernel
theorem dMo_splitsFrom_1 : decode bMo_splitsFrom 1 = .ok (.getfield 60, 3) := by decide +kernel
theorem dMo_splitsFrom_4 : decode bMo_splitsFrom 4 = .ok (.iconst 0, 1) := by decide +kernel
theorem dMo_splitsFrom_5 : decode bMo_splitsFrom 5 = .ok (.iaload, 1) := by decide +kernel
theorem dMo_splitsFrom_6 : decode bMo_splitsFrom 6 = .ok (.aload_n 0, 1) := by decide +kernel
theorem dMo_splitsFrom_7 : decode bMo_splitsFrom 7 = .ok (.getfield 60, 3) := by decide +kernel
theorem dMo_splitsFrom_10 : decode bMo_splitsFrom 10 = .ok (.iconst 1, 1) := by decide +kernel
theorem dMo_splitsFrom_11 : decode bMo_splitsFrom 11 = .ok (.iaload, 1) := by decide +kernel
theorem dMo_splitsFrom_12 : decode bMo_splitsFrom 12 = .ok (.iadd, 1) := by decide +kernel
theorem dMo_splitsFrom_13 : decode bMo_splitsFrom 13 = .ok (.istore_n 2, 1) := by decide +kernel
theorem dMo_splitsFrom_14 : decode bMo_splitsFrom 14 = .ok (.iconst 0, 1) := by decide +kernel
theorem dMo_splitsFrom_15 : decode bMo_splitsFrom 15 = .ok (.istore_n 3, 1) := by decide +kernel
theorem dMo_splitsFrom_16 : decode bMo_splitsFrom 16 = .ok (.iconst 0, 1) := by decide +kernel
theorem dMo_splitsFrom_17 : decode bMo_splitsFrom 17 = .ok (.istore 4, 2) := by decide +kernel
theorem dMo_splitsFrom_19 : decode bMo_splitsFrom 19 = .ok (.iload 4, 2) := by decide +kernel
theorem dMo_splitsFrom_21 : decode bMo_splitsFrom 21 = .ok (.iconst 1, 1) := by decide +kernel
theorem dMo_splitsFrom_22 : decode bMo_splitsFrom 22 = .ok (.iload_n 2, 1) := by decide +kernel
theorem dMo_splitsFrom_23 : decode bMo_splitsFrom 23 = .ok (.ishl, 1) := by decide +kernel
theorem dMo_splitsFrom_24 : decode bMo_splitsFrom 24 = .ok (.if_icmp .ge 107, 3) := by decide +kernel
theorem dMo_splitsFrom_27 : decode bMo_splitsFrom 27 = .ok (.iload 4, 2) := by decide +kernel
theorem dMo_splitsFrom_29 : decode bMo_splitsFrom 29 = .ok (.invokestatic 378, 3) := by decide +kernel
theorem dMo_splitsFrom_32 : decode bMo_splitsFrom 32 = .ok (.aload_n 0, 1) := by decide +kernel
theorem dMo_splitsFrom_33 : decode bMo_splitsFrom 33 = .ok (.getfield 60, 3) := by decide +kernel
theorem dMo_splitsFrom_36 : decode bMo_splitsFrom 36 = .ok (.iconst 1, 1) := by decide +kernel
theorem dMo_splitsFrom_37 : decode bMo_splitsFrom 37 = .ok (.iaload, 1) := by decide +kernel
theorem dMo_splitsFrom_38 : decode bMo_splitsFrom 38 = .ok (.if_icmp .eq 6, 3) := by decide +kernel
theorem dMo_splitsFrom_41 : decode bMo_splitsFrom 41 = .ok (.goto 84, 3) := by decide +kernel
theorem dMo_splitsFrom_44 : decode bMo_splitsFrom 44 = .ok (.iconst 0, 1) := by decide +kernel
theorem dMo_splitsFrom_45 : decode bMo_splitsFrom 45 = .ok (.istore 5, 2) := by decide +kernel
theorem dMo_splitsFrom_47 : decode bMo_splitsFrom 47 = .ok (.iconst 0, 1) := by decide +kernel
theorem dMo_splitsFrom_48 : decode bMo_splitsFrom 48 = .ok (.istore 6, 2) := by decide +kernel
theorem dMo_splitsFrom_50 : decode bMo_splitsFrom 50 = .ok (.iload 6, 2) := by decide +kernel
theorem dMo_splitsFrom_52 : decode bMo_splitsFrom 52 = .ok (.iload_n 2, 1) := by decide +kernel
theorem dMo_splitsFrom_53 : decode bMo_splitsFrom 53 = .ok (.if_icmp .ge 58, 3) := by decide +kernel
theorem dMo_splitsFrom_56 : decode bMo_splitsFrom 56 = .ok (.iload 4, 2) := by decide +kernel
theorem dMo_splitsFrom_58 : decode bMo_splitsFrom 58 = .ok (.iload 6, 2) := by decide +kernel
theorem dMo_splitsFrom_60 : decode bMo_splitsFrom 60 = .ok (.ishr, 1) := by decide +kernel
theorem dMo_splitsFrom_61 : decode bMo_splitsFrom 61 = .ok (.iconst 1, 1) := by decide +kernel
theorem dMo_splitsFrom_62 : decode bMo_splitsFrom 62 = .ok (.iand, 1) := by decide +kernel
theorem dMo_splitsFrom_63 : decode bMo_splitsFrom 63 = .ok (.iconst 1, 1) := by decide +kernel
theorem dMo_splitsFrom_64 : decode bMo_splitsFrom 64 = .ok (.if_icmp .ne 41, 3) := by decide +kernel
theorem dMo_splitsFrom_67 : decode bMo_splitsFrom 67 = .ok (.iload 5, 2) := by decide +kernel
theorem dMo_splitsFrom_69 : decode bMo_splitsFrom 69 = .ok (.aload_n 0, 1) := by decide +kernel
theorem dMo_splitsFrom_70 : decode bMo_splitsFrom 70 = .ok (.getfield 63, 3) := by decide +kernel
theorem dMo_splitsFrom_73 : decode bMo_splitsFrom 73 = .ok (.iload 6, 2) := by decide +kernel
theorem dMo_splitsFrom_75 : decode bMo_splitsFrom 75 = .ok (.aload_n 0, 1) := by decide +kernel
theorem dMo_splitsFrom_76 : decode bMo_splitsFrom 76 = .ok (.getfield 60, 3) := by decide +kernel
theorem dMo_splitsFrom_79 : decode bMo_splitsFrom 79 = .ok (.iconst 0, 1) := by decide +kernel
theorem dMo_splitsFrom_80 : decode bMo_splitsFrom 80 = .ok (.iaload, 1) := by decide +kernel
theorem dMo_splitsFrom_81 : decode bMo_splitsFrom 81 = .ok (.if_icmp .ge 8, 3) := by decide +kernel
theorem dMo_splitsFrom_84 : decode bMo_splitsFrom 84 = .ok (.iload 6, 2) := by decide +kernel
theorem dMo_splitsFrom_86 : decode bMo_splitsFrom 86 = .ok (.goto 15, 3) := by decide +kernel
theorem dMo_splitsFrom_89 : decode bMo_splitsFrom 89 = .ok (.bipush 8, 2) := by decide +kernel
theorem dMo_splitsFrom_91 : decode bMo_splitsFrom 91 = .ok (.iload 6, 2) := by decide +kernel
theorem dMo_splitsFrom_93 : decode bMo_splitsFrom 93 = .ok (.iadd, 1) := by decide +kernel
theorem dMo_splitsFrom_94 : decode bMo_splitsFrom 94 = .ok (.aload_n 0, 1) := by decide +kernel
theorem dMo_splitsFrom_95 : decode bMo_splitsFrom 95 = .ok (.getfield 60, 3) := by decide +kernel
theorem dMo_splitsFrom_98 : decode bMo_splitsFrom 98 = .ok (.iconst 0, 1) := by decide +kernel
theorem dMo_splitsFrom_99 : decode bMo_splitsFrom 99 = .ok (.iaload, 1) := by decide +kernel
theorem dMo_splitsFrom_100 : decode bMo_splitsFrom 100 = .ok (.isub, 1) := by decide +kernel
theorem dMo_splitsFrom_101 : decode bMo_splitsFrom 101 = .ok (.iaload, 1) := by decide +kernel
theorem dMo_splitsFrom_102 : decode bMo_splitsFrom 102 = .ok (.iadd, 1) := by decide +kernel
theorem dMo_splitsFrom_103 : decode bMo_splitsFrom 103 = .ok (.istore 5, 2) := by decide +kernel
theorem dMo_splitsFrom_105 : decode bMo_splitsFrom 105 = .ok (.iinc 6 1, 3) := by decide +kernel
theorem dMo_splitsFrom_108 : decode bMo_splitsFrom 108 = .ok (.goto (-58), 3) := by decide +kernel
theorem dMo_splitsFrom_111 : decode bMo_splitsFrom 111 = .ok (.iload_n 3, 1) := by decide +kernel
theorem dMo_splitsFrom_112 : decode bMo_splitsFrom 112 = .ok (.iload 5, 2) := by decide +kernel
theorem dMo_splitsFrom_114 : decode bMo_splitsFrom 114 = .ok (.iload_n 1, 1) := by decide +kernel
theorem dMo_splitsFrom_115 : decode bMo_splitsFrom 115 = .ok (.if_icmp .lt 7, 3) := by decide +kernel
theorem dMo_splitsFrom_118 : decode bMo_splitsFrom 118 = .ok (.iconst 1, 1) := by decide +kernel
theorem dMo_splitsFrom_119 : decode bMo_splitsFrom 119 = .ok (.goto 4, 3) := by decide +kernel
theorem dMo_splitsFrom_122 : decode bMo_splitsFrom 122 = .ok (.iconst 0, 1) := by decide +kernel
theorem dMo_splitsFrom_123 : decode bMo_splitsFrom 123 = .ok (.iadd, 1) := by decide +kernel
theorem dMo_splitsFrom_124 : decode bMo_splitsFrom 124 = .ok (.istore_n 3, 1) := by decide +kernel
theorem dMo_splitsFrom_125 : decode bMo_splitsFrom 125 = .ok (.iinc 4 1, 3) := by decide +kernel
theorem dMo_splitsFrom_128 : decode bMo_splitsFrom 128 = .ok (.goto (-109), 3) := by decide +kernel
theorem dMo_splitsFrom_131 : decode bMo_splitsFrom 131 = .ok (.iload_n 3, 1) := by decide +kernel
theorem dMo_splitsFrom_132 : decode bMo_splitsFrom 132 = .ok (.ireturn, 1) := by decide +kernel
theorem dMo_chance_0 : decode bMo_chance 0 = .ok (.aload_n 0, 1) := by decide +kernel
theorem dMo_chance_1 : decode bMo_chance 1 = .ok (.iconst 0, 1) := by decide +kernel
theorem dMo_chance_2 : decode bMo_chance 2 = .ok (.putfield 73, 3) := by decide +kernel
theorem dMo_chance_5 : decode bMo_chance 5 = .ok (.aload_n 0, 1) := by decide +kernel
theorem dMo_chance_6 : decode bMo_chance 6 = .ok (.getfield 60, 3) := by decide +kernel
theorem dMo_chance_9 : decode bMo_chance 9 = .ok (.iconst 0, 1) := by decide +kernel
theorem dMo_chance_10 : decode bMo_chance 10 = .ok (.iaload, 1) := by decide +kernel
theorem dMo_chance_11 : decode bMo_chance 11 = .ok (.ifCond .eq 12, 3) := by decide +kernel
theorem dMo_chance_14 : decode bMo_chance 14 = .ok (.aload_n 0, 1) := by decide +kernel
theorem dMo_chance_15 : decode bMo_chance 15 = .ok (.getfield 60, 3) := by decide +kernel
theorem dMo_chance_18 : decode bMo_chance 18 = .ok (.iconst 1, 1) := by decide +kernel
theorem dMo_chance_19 : decode bMo_chance 19 = .ok (.iaload, 1) := by decide +kernel
theorem dMo_chance_20 : decode bMo_chance 20 = .ok (.ifCond .ne 9, 3) := by decide +kernel
theorem dMo_chance_23 : decode bMo_chance 23 = .ok (.aload_n 0, 1) := by decide +kernel
theorem dMo_chance_24 : decode bMo_chance 24 = .ok (.iconst 5, 1) := by decide +kernel
theorem dMo_chance_25 : decode bMo_chance 25 = .ok (.invokevirtual 283, 3) := by decide +kernel
theorem dMo_chance_28 : decode bMo_chance 28 = .ok (.ireturn, 1) := by decide +kernel
theorem dMo_chance_29 : decode bMo_chance 29 = .ok (.iconst 0, 1) := by decide +kernel
theorem dMo_chance_30 : decode bMo_chance 30 = .ok (.istore_n 1, 1) := by decide +kernel
theorem dMo_chance_31 : decode bMo_chance 31 = .ok (.iconst 0, 1) := by decide +kernel
theorem dMo_chance_32 : decode bMo_chance 32 = .ok (.istore_n 2, 1) := by decide +kernel
theorem dMo_chance_33 : decode bMo_chance 33 = .ok (.iload_n 2, 1) := by decide +kernel
theorem dMo_chance_34 : decode bMo_chance 34 = .ok (.aload_n 0, 1) := by decide +kernel
theorem dMo_chance_35 : decode bMo_chance 35 = .ok (.getfield 60, 3) := by decide +kernel
theorem dMo_chance_38 : decode bMo_chance 38 = .ok (.iconst 1, 1) := by decide +kernel
theorem dMo_chance_39 : decode bMo_chance 39 = .ok (.iaload, 1) := by decide +kernel
theorem dMo_chance_40 : decode bMo_chance 40 = .ok (.if_icmp .ge 21, 3) := by decide +kernel
theorem dMo_chance_43 : decode bMo_chance 43 = .ok (.iload_n 1, 1) := by decide +kernel
theorem dMo_chance_44 : decode bMo_chance 44 = .ok (.aload_n 0, 1) := by decide +kernel
theorem dMo_chance_45 : decode bMo_chance 45 = .ok (.getfield 63, 3) := by decide +kernel
theorem dMo_chance_48 : decode bMo_chance 48 = .ok (.bipush 8, 2) := by decide +kernel
theorem dMo_chance_50 : decode bMo_chance 50 = .ok (.iload_n 2, 1) := by decide +kernel
theorem dMo_chance_51 : decode bMo_chance 51 = .ok (.iadd, 1) := by decide +kernel
theorem dMo_chance_52 : decode bMo_chance 52 = .ok (.iaload, 1) := by decide +kernel
theorem dMo_chance_53 : decode bMo_chance 53 = .ok (.iadd, 1) := by decide +kernel
theorem dMo_chance_54 : decode bMo_chance 54 = .ok (.istore_n 1, 1) := by decide +kernel
theorem dMo_chance_55 : decode bMo_chance 55 = .ok (.iinc 2 1, 3) := by decide +kernel
theorem dMo_chance_58 : decode bMo_chance 58 = .ok (.goto (-25), 3) := by decide +kernel
theorem dMo_chance_61 : decode bMo_chance 61 = .ok (.aload_n 0, 1) := by decide +kernel
theorem dMo_chance_62 : decode bMo_chance 62 = .ok (.aload_n 0, 1) := by decide +kernel
theorem dMo_chance_63 : decode bMo_chance 63 = .ok (.iload_n 1, 1) := by decide +kernel
theorem dMo_chance_64 : decode bMo_chance 64 = .ok (.invokevirtual 381, 3) := by decide +kernel
theorem dMo_chance_67 : decode bMo_chance 67 = .ok (.invokevirtual 302, 3) := by decide +kernel
theorem dMo_chance_70 : decode bMo_chance 70 = .ok (.ireturn, 1) := by decide +kernel
theorem dMo_splits_0 : decode bMo_splits 0 = .ok (.aload_n 0, 1) := by decide +kernel
theorem dMo_splits_1 : decode bMo_splits 1 = .ok (.iconst 0, 1) := by decide +kernel
theorem dMo_splits_2 : decode bMo_splits 2 = .ok (.putfield 73, 3) := by decide +kernel
theorem dMo_splits_5 : decode bMo_splits 5 = .ok (.aload_n 0, 1) := by decide +kernel
theorem dMo_splits_6 : decode bMo_splits 6 = .ok (.getfield 60, 3) := by decide +kernel
theorem dMo_splits_9 : decode bMo_splits 9 = .ok (.iconst 0, 1) := by decide +kernel
theorem dMo_splits_10 : decode bMo_splits 10 = .ok (.iaload, 1) := by decide +kernel
theorem dMo_splits_11 : decode bMo_splits 11 = .ok (.ifCond .eq 12, 3) := by decide +kernel
theorem dMo_splits_14 : decode bMo_splits 14 = .ok (.aload_n 0, 1) := by decide +kernel
theorem dMo_splits_15 : decode bMo_splits 15 = .ok (.getfield 60, 3) := by decide +kernel
theorem dMo_splits_18 : decode bMo_splits 18 = .ok (.iconst 1, 1) := by decide +kernel
theorem dMo_splits_19 : decode bMo_splits 19 = .ok (.iaload, 1) := by decide +kernel
theorem dMo_splits_20 : decode bMo_splits 20 = .ok (.ifCond .ne 11, 3) := by decide +kernel
theorem dMo_splits_23 : decode bMo_splits 23 = .ok (.aload_n 0, 1) := by decide +kernel
theorem dMo_splits_24 : decode bMo_splits 24 = .ok (.iconst 5, 1) := by decide +kernel
theorem dMo_splits_25 : decode bMo_splits 25 = .ok (.invokevirtual 283, 3) := by decide +kernel
theorem dMo_splits_28 : decode bMo_splits 28 = .ok (.goto 12, 3) := by decide +kernel
theorem dMo_splits_31 : decode bMo_splits 31 = .ok (.aload_n 0, 1) := by decide +kernel
theorem dMo_splits_32 : decode bMo_splits 32 = .ok (.aload_n 0, 1) := by decide +kernel
theorem dMo_splits_33 : decode bMo_splits 33 = .ok (.iconst 0, 1) := by decide +kernel
theorem dMo_splits_34 : decode bMo_splits 34 = .ok (.invokevirtual 381, 3) := by decide +kernel
theorem dMo_splits_37 : decode bMo_splits 37 = .ok (.invokevirtual 302, 3) := by decide +kernel
theorem dMo_splits_40 : decode bMo_splits 40 = .ok (.ireturn, 1) := by decide +kernel
theorem dMo_clear_0 : decode bMo_clear 0 = .ok (.aload_n 0, 1) := by decide +kernel
theorem dMo_clear_1 : decode bMo_clear 1 = .ok (.iconst 0, 1) := by decide +kernel
theorem dMo_clear_2 : decode bMo_clear 2 = .ok (.putfield 73, 3) := by decide +kernel
theorem dMo_clear_5 : decode bMo_clear 5 = .ok (.aload_n 0, 1) := by decide +kernel
theorem dMo_clear_6 : decode bMo_clear 6 = .ok (.getfield 60, 3) := by decide +kernel
theorem dMo_clear_9 : decode bMo_clear 9 = .ok (.iconst 0, 1) := by decide +kernel
theorem dMo_clear_10 : decode bMo_clear 10 = .ok (.iaload, 1) := by decide +kernel
theorem dMo_clear_11 : decode bMo_clear 11 = .ok (.aload_n 0, 1) := by decide +kernel
theorem dMo_clear_12 : decode bMo_clear 12 = .ok (.getfield 60, 3) := by decide +kernel
theorem dMo_clear_15 : decode bMo_clear 15 = .ok (.iconst 1, 1) := by decide +kernel
theorem dMo_clear_16 : decode bMo_clear 16 = .ok (.iaload, 1) := by decide +kernel
theorem dMo_clear_17 : decode bMo_clear 17 = .ok (.iadd, 1) := by decide +kernel
theorem dMo_clear_18 : decode bMo_clear 18 = .ok (.istore_n 1, 1) := by decide +kernel
theorem dMo_clear_19 : decode bMo_clear 19 = .ok (.aload_n 0, 1) := by decide +kernel
theorem dMo_clear_20 : decode bMo_clear 20 = .ok (.getfield 60, 3) := by decide +kernel
theorem dMo_clear_23 : decode bMo_clear 23 = .ok (.iconst 0, 1) := by decide +kernel
theorem dMo_clear_24 : decode bMo_clear 24 = .ok (.iconst 0, 1) := by decide +kernel
theorem dMo_clear_25 : decode bMo_clear 25 = .ok (.iastore, 1) := by decide +kernel
theorem dMo_clear_26 : decode bMo_clear 26 = .ok (.aload_n 0, 1) := by decide +kernel
theorem dMo_clear_27 : decode bMo_clear 27 = .ok (.getfield 60, 3) := by decide +kernel
theorem dMo_clear_30 : decode bMo_clear 30 = .ok (.iconst 1, 1) := by decide +kernel
theorem dMo_clear_31 : decode bMo_clear 31 = .ok (.iconst 0, 1) := by decide +kernel
theorem dMo_clear_32 : decode bMo_clear 32 = .ok (.iastore, 1) := by decide +kernel
theorem dMo_clear_33 : decode bMo_clear 33 = .ok (.iload_n 1, 1) := by decide +kernel
theorem dMo_clear_34 : decode bMo_clear 34 = .ok (.ireturn, 1) := by decide +kernel
theorem dMo_leads_0 : decode bMo_leads 0 = .ok (.iconst 0, 1) := by decide +kernel
theorem dMo_leads_1 : decode bMo_leads 1 = .ok (.istore_n 1, 1) := by decide +kernel
theorem dMo_leads_2 : decode bMo_leads 2 = .ok (.iload_n 1, 1) := by decide +kernel
theorem dMo_leads_3 : decode bMo_leads 3 = .ok (.aload_n 0, 1) := by decide +kernel
theorem dMo_leads_4 : decode bMo_leads 4 = .ok (.getfield 290, 3) := by decide +kernel
theorem dMo_leads_7 : decode bMo_leads 7 = .ok (.getfield 191, 3) := by decide +kernel
theorem dMo_leads_10 : decode bMo_leads 10 = .ok (.if_icmp .ge 31, 3) := by decide +kernel
theorem dMo_leads_13 : decode bMo_leads 13 = .ok (.aload_n 0, 1) := by decide +kernel
theorem dMo_leads_14 : decode bMo_leads 14 = .ok (.getfield 66, 3) := by decide +kernel
theorem dMo_leads_17 : decode bMo_leads 17 = .ok (.iload_n 1, 1) := by decide +kernel
theorem dMo_leads_18 : decode bMo_leads 18 = .ok (.dup2, 1) := by decide +kernel
theorem dMo_leads_19 : decode bMo_leads 19 = .ok (.laload, 1) := by decide +kernel
theorem dMo_leads_20 : decode bMo_leads 20 = .ok (.aload_n 0, 1) := by decide +kernel
theorem dMo_leads_21 : decode bMo_leads 21 = .ok (.getfield 70, 3) := by decide +kernel
theorem dMo_leads_24 : decode bMo_leads 24 = .ok (.iload_n 1, 1) := by decide +kernel
theorem dMo_leads_25 : decode bMo_leads 25 = .ok (.laload, 1) := by decide +kernel
theorem dMo_leads_26 : decode bMo_leads 26 = .ok (.ladd, 1) := by decide +kernel
theorem dMo_leads_27 : decode bMo_leads 27 = .ok (.lastore, 1) := by decide +kernel
theorem dMo_leads_28 : decode bMo_leads 28 = .ok (.aload_n 0, 1) := by decide +kernel
theorem dMo_leads_29 : decode bMo_leads 29 = .ok (.getfield 70, 3) := by decide +kernel
theorem dMo_leads_32 : decode bMo_leads 32 = .ok (.iload_n 1, 1) := by decide +kernel
theorem dMo_leads_33 : decode bMo_leads 33 = .ok (.lconst 0, 1) := by decide +kernel
theorem dMo_leads_34 : decode bMo_leads 34 = .ok (.lastore, 1) := by decide +kernel
theorem dMo_leads_35 : decode bMo_leads 35 = .ok (.iinc 1 1, 3) := by decide +kernel
theorem dMo_leads_38 : decode bMo_leads 38 = .ok (.goto (-36), 3) := by decide +kernel
theorem dMo_leads_41 : decode bMo_leads 41 = .ok (.aload_n 0, 1) := by decide +kernel
theorem dMo_leads_42 : decode bMo_leads 42 = .ok (.getfield 21, 3) := by decide +kernel
theorem dMo_leads_45 : decode bMo_leads 45 = .ok (.bipush 26, 2) := by decide +kernel
theorem dMo_leads_47 : decode bMo_leads 47 = .ok (.iaload, 1) := by decide +kernel
theorem dMo_leads_48 : decode bMo_leads 48 = .ok (.iconst 1, 1) := by decide +kernel
theorem dMo_leads_49 : decode bMo_leads 49 = .ok (.if_icmp .ne 5, 3) := by decide +kernel
theorem dMo_leads_52 : decode bMo_leads 52 = .ok (.lconst 0, 1) := by decide +kernel
theorem dMo_leads_53 : decode bMo_leads 53 = .ok (.lreturn, 1) := by decide +kernel
theorem dMo_leads_54 : decode bMo_leads 54 = .ok (.aload_n 0, 1) := by decide +kernel
theorem dMo_leads_55 : decode bMo_leads 55 = .ok (.getfield 290, 3) := by decide +kernel
theorem dMo_leads_58 : decode bMo_leads 58 = .ok (.getfield 191, 3) := by decide +kernel
theorem dMo_leads_61 : decode bMo_leads 61 = .ok (.iconst 2, 1) := by decide +kernel
theorem dMo_leads_62 : decode bMo_leads 62 = .ok (.isub, 1) := by decide +kernel
theorem dMo_leads_63 : decode bMo_leads 63 = .ok (.istore_n 1, 1) := by decide +kernel
theorem dMo_leads_64 : decode bMo_leads 64 = .ok (.iload_n 1, 1) := by decide +kernel
theorem dMo_leads_65 : decode bMo_leads 65 = .ok (.ifCond .lt 115, 3) := by decide +kernel
theorem dMo_leads_68 : decode bMo_leads 68 = .ok (.aload_n 0, 1) := by decide +kernel
theorem dMo_leads_69 : decode bMo_leads 69 = .ok (.getfield 66, 3) := by decide +kernel
theorem dMo_leads_72 : decode bMo_leads 72 = .ok (.iload_n 1, 1) := by decide +kernel
theorem dMo_leads_73 : decode bMo_leads 73 = .ok (.laload, 1) := by decide +kernel
theorem dMo_leads_74 : decode bMo_leads 74 = .ok (.aload_n 0, 1) := by decide +kernel
theorem dMo_leads_75 : decode bMo_leads 75 = .ok (.getfield 290, 3) := by decide +kernel
theorem dMo_leads_78 : decode bMo_leads 78 = .ok (.getfield 267, 3) := by decide +kernel
theorem dMo_leads_81 : decode bMo_leads 81 = .ok (.iload_n 1, 1) := by decide +kernel
theorem dMo_leads_82 : decode bMo_leads 82 = .ok (.iaload, 1) := by decide +kernel
theorem dMo_leads_83 : decode bMo_leads 83 = .ok (.i2l, 1) := by decide +kernel
theorem dMo_leads_84 : decode bMo_leads 84 = .ok (.lmul, 1) := by decide +kernel
theorem dMo_leads_85 : decode bMo_leads 85 = .ok (.aload_n 0, 1) := by decide +kernel
theorem dMo_leads_86 : decode bMo_leads 86 = .ok (.getfield 21, 3) := by decide +kernel
theorem dMo_leads_89 : decode bMo_leads 89 = .ok (.bipush 29, 2) := by decide +kernel
theorem dMo_leads_91 : decode bMo_leads 91 = .ok (.iaload, 1) := by decide +kernel
theorem dMo_leads_92 : decode bMo_leads 92 = .ok (.i2l, 1) := by decide +kernel
theorem dMo_leads_93 : decode bMo_leads 93 = .ok (.lmul, 1) := by decide +kernel
theorem dMo_leads_94 : decode bMo_leads 94 = .ok (.ldc2_w 384, 3) := by decide +kernel
theorem dMo_leads_97 : decode bMo_leads 97 = .ok (.ldiv, 1) := by decide +kernel
theorem dMo_leads_98 : decode bMo_leads 98 = .ok (.lstore_n 2, 1) := by decide +kernel
theorem dMo_leads_99 : decode bMo_leads 99 = .ok (.lload_n 2, 1) := by decide +kernel
theorem dMo_leads_100 : decode bMo_leads 100 = .ok (.aload_n 0, 1) := by decide +kernel
theorem dMo_leads_101 : decode bMo_leads 101 = .ok (.getfield 290, 3) := by decide +kernel
theorem dMo_leads_104 : decode bMo_leads 104 = .ok (.getfield 270, 3) := by decide +kernel
theorem dMo_leads_107 : decode bMo_leads 107 = .ok (.iload_n 1, 1) := by decide +kernel
theorem dMo_leads_108 : decode bMo_leads 108 = .ok (.iaload, 1) := by decide +kernel
theorem dMo_leads_109 : decode bMo_leads 109 = .ok (.i2l, 1) := by decide +kernel
theorem dMo_leads_110 : decode bMo_leads 110 = .ok (.lmul, 1) := by decide +kernel
theorem dMo_leads_111 : decode bMo_leads 111 = .ok (.ldc2_w 386, 3) := by decide +kernel
theorem dMo_leads_114 : decode bMo_leads 114 = .ok (.ldiv, 1) := by decide +kernel
theorem dMo_leads_115 : decode bMo_leads 115 = .ok (.lstore 4, 2) := by decide +kernel
theorem dMo_leads_117 : decode bMo_leads 117 = .ok (.aload_n 0, 1) := by decide +kernel
theorem dMo_leads_118 : decode bMo_leads 118 = .ok (.getfield 66, 3) := by decide +kernel
theorem dMo_leads_121 : decode bMo_leads 121 = .ok (.iload_n 1, 1) := by decide +kernel
theorem dMo_leads_122 : decode bMo_leads 122 = .ok (.dup2, 1) := by decide +kernel
theorem dMo_leads_123 : decode bMo_leads 123 = .ok (.laload, 1) := by decide +kernel
theorem dMo_leads_124 : decode bMo_leads 124 = .ok (.lload_n 2, 1) := by decide +kernel
theorem dMo_leads_125 : decode bMo_leads 125 = .ok (.lsub, 1) := by decide +kernel
theorem dMo_leads_126 : decode bMo_leads 126 = .ok (.lastore, 1) := by decide +kernel
theorem dMo_leads_127 : decode bMo_leads 127 = .ok (.aload_n 0, 1) := by decide +kernel
theorem dMo_leads_128 : decode bMo_leads 128 = .ok (.getfield 66, 3) := by decide +kernel
theorem dMo_leads_131 : decode bMo_leads 131 = .ok (.iload_n 1, 1) := by decide +kernel
theorem dMo_leads_132 : decode bMo_leads 132 = .ok (.iconst 1, 1) := by decide +kernel
theorem dMo_leads_133 : decode bMo_leads 133 = .ok (.iadd, 1) := by decide +kernel
theorem dMo_leads_134 : decode bMo_leads 134 = .ok (.dup2, 1) := by decide +kernel
theorem dMo_leads_135 : decode bMo_leads 135 = .ok (.laload, 1) := by decide +kernel
theorem dMo_leads_136 : decode bMo_leads 136 = .ok (.lload 4, 2) := by decide +kernel
theorem dMo_leads_138 : decode bMo_leads 138 = .ok (.ladd, 1) := by decide +kernel
theorem dMo_leads_139 : decode bMo_leads 139 = .ok (.lastore, 1) := by decide +kernel
theorem dMo_leads_140 : decode bMo_leads 140 = .ok (.aload_n 0, 1) := by decide +kernel
theorem dMo_leads_141 : decode bMo_leads 141 = .ok (.getfield 66, 3) := by decide +kernel
theorem dMo_leads_144 : decode bMo_leads 144 = .ok (.iload_n 1, 1) := by decide +kernel
theorem dMo_leads_145 : decode bMo_leads 145 = .ok (.iconst 2, 1) := by decide +kernel
theorem dMo_leads_146 : decode bMo_leads 146 = .ok (.iadd, 1) := by decide +kernel
theorem dMo_leads_147 : decode bMo_leads 147 = .ok (.aload_n 0, 1) := by decide +kernel
theorem dMo_leads_148 : decode bMo_leads 148 = .ok (.getfield 290, 3) := by decide +kernel
theorem dMo_leads_151 : decode bMo_leads 151 = .ok (.getfield 191, 3) := by decide +kernel
theorem dMo_leads_154 : decode bMo_leads 154 = .ok (.if_icmp .ge 9, 3) := by decide +kernel
theorem dMo_leads_157 : decode bMo_leads 157 = .ok (.iload_n 1, 1) := by decide +kernel
theorem dMo_leads_158 : decode bMo_leads 158 = .ok (.iconst 2, 1) := by decide +kernel
theorem dMo_leads_159 : decode bMo_leads 159 = .ok (.iadd, 1) := by decide +kernel
theorem dMo_leads_160 : decode bMo_leads 160 = .ok (.goto 6, 3) := by decide +kernel
theorem dMo_leads_163 : decode bMo_leads 163 = .ok (.iload_n 1, 1) := by decide +kernel
theorem dMo_leads_164 : decode bMo_leads 164 = .ok (.iconst 1, 1) := by decide +kernel
theorem dMo_leads_165 : decode bMo_leads 165 = .ok (.iadd, 1) := by decide +kernel
theorem dMo_leads_166 : decode bMo_leads 166 = .ok (.dup2, 1) := by decide +kernel
theorem dMo_leads_167 : decode bMo_leads 167 = .ok (.laload, 1) := by decide +kernel
theorem dMo_leads_168 : decode bMo_leads 168 = .ok (.lload_n 2, 1) := by decide +kernel
theorem dMo_leads_169 : decode bMo_leads 169 = .ok (.lload 4, 2) := by decide +kernel
theorem dMo_leads_171 : decode bMo_leads 171 = .ok (.lsub, 1) := by decide +kernel
theorem dMo_leads_172 : decode bMo_leads 172 = .ok (.ladd, 1) := by decide +kernel
theorem dMo_leads_173 : decode bMo_leads 173 = .ok (.lastore, 1) := by decide +kernel
theorem dMo_leads_174 : decode bMo_leads 174 = .ok (.iinc 1 (-1), 3) := by decide +kernel
theorem dMo_leads_177 : decode bMo_leads 177 = .ok (.goto (-113), 3) := by decide +kernel
theorem dMo_leads_180 : decode bMo_leads 180 = .ok (.lconst 0, 1) := by decide +kernel
theorem dMo_leads_181 : decode bMo_leads 181 = .ok (.lstore_n 1, 1) := by decide +kernel
theorem dMo_leads_182 : decode bMo_leads 182 = .ok (.iconst 0, 1) := by decide +kernel
theorem dMo_leads_183 : decode bMo_leads 183 = .ok (.istore_n 3, 1) := by decide +kernel
theorem dMo_leads_184 : decode bMo_leads 184 = .ok (.iload_n 3, 1) := by decide +kernel
theorem dMo_leads_185 : decode bMo_leads 185 = .ok (.aload_n 0, 1) := by decide +kernel
theorem dMo_leads_186 : decode bMo_leads 186 = .ok (.getfield 290, 3) := by decide +kernel
theorem dMo_leads_189 : decode bMo_leads 189 = .ok (.getfield 191, 3) := by decide +kernel
theorem dMo_leads_192 : decode bMo_leads 192 = .ok (.if_icmp .ge 85, 3) := by decide +kernel
theorem dMo_leads_195 : decode bMo_leads 195 = .ok (.aload_n 0, 1) := by decide +kernel
theorem dMo_leads_196 : decode bMo_leads 196 = .ok (.getfield 66, 3) := by decide +kernel
theorem dMo_leads_199 : decode bMo_leads 199 = .ok (.iload_n 3, 1) := by decide +kernel
theorem dMo_leads_200 : decode bMo_leads 200 = .ok (.laload, 1) := by decide +kernel
theorem dMo_leads_201 : decode bMo_leads 201 = .ok (.bipush 20, 2) := by decide +kernel
theorem dMo_leads_203 : decode bMo_leads 203 = .ok (.bipush 10, 2) := by decide +kernel
theorem dMo_leads_205 : decode bMo_leads 205 = .ok (.aload_n 0, 1) := by decide +kernel
theorem dMo_leads_206 : decode bMo_leads 206 = .ok (.getfield 21, 3) := by decide +kernel
theorem dMo_leads_209 : decode bMo_leads 209 = .ok (.bipush 35, 2) := by decide +kernel
theorem dMo_leads_211 : decode bMo_leads 211 = .ok (.iaload, 1) := by decide +kernel
theorem dMo_leads_212 : decode bMo_leads 212 = .ok (.imul, 1) := by decide +kernel
theorem dMo_leads_213 : decode bMo_leads 213 = .ok (.iadd, 1) := by decide +kernel
theorem dMo_leads_214 : decode bMo_leads 214 = .ok (.i2l, 1) := by decide +kernel
theorem dMo_leads_215 : decode bMo_leads 215 = .ok (.lmul, 1) := by decide +kernel
theorem dMo_leads_216 : decode bMo_leads 216 = .ok (.ldc2_w 386, 3) := by decide +kernel
theorem dMo_leads_219 : decode bMo_leads 219 = .ok (.ldiv, 1) := by decide +kernel
theorem dMo_leads_220 : decode bMo_leads 220 = .ok (.lstore 4, 2) := by decide +kernel
theorem dMo_leads_222 : decode bMo_leads 222 = .ok (.lload 4, 2) := by decide +kernel
theorem dMo_leads_224 : decode bMo_leads 224 = .ok (.aload_n 0, 1) := by decide +kernel
theorem dMo_leads_225 : decode bMo_leads 225 = .ok (.iload_n 3, 1) := by decide +kernel
theorem dMo_leads_226 : decode bMo_leads 226 = .ok (.aload_n 0, 1) := by decide +kernel
theorem dMo_leads_227 : decode bMo_leads 227 = .ok (.getfield 21, 3) := by decide +kernel
theorem dMo_leads_230 : decode bMo_leads 230 = .ok (.bipush 25, 2) := by decide +kernel
theorem dMo_leads_232 : decode bMo_leads 232 = .ok (.iaload, 1) := by decide +kernel
theorem dMo_leads_233 : decode bMo_leads 233 = .ok (.invokevirtual 320, 3) := by decide +kernel
theorem dMo_leads_236 : decode bMo_leads 236 = .ok (.i2l, 1) := by decide +kernel
theorem dMo_leads_237 : decode bMo_leads 237 = .ok (.lmul, 1) := by decide +kernel
theorem dMo_leads_238 : decode bMo_leads 238 = .ok (.ldc2_w 386, 3) := by decide +kernel
theorem dMo_leads_241 : decode bMo_leads 241 = .ok (.ldiv, 1) := by decide +kernel
theorem dMo_leads_242 : decode bMo_leads 242 = .ok (.lstore 6, 2) := by decide +kernel
theorem dMo_leads_244 : decode bMo_leads 244 = .ok (.aload_n 0, 1) := by decide +kernel
theorem dMo_leads_245 : decode bMo_leads 245 = .ok (.getfield 66, 3) := by decide +kernel
theorem dMo_leads_248 : decode bMo_leads 248 = .ok (.iload_n 3, 1) := by decide +kernel
theorem dMo_leads_249 : decode bMo_leads 249 = .ok (.dup2, 1) := by decide +kernel
theorem dMo_leads_250 : decode bMo_leads 250 = .ok (.laload, 1) := by decide +kernel
theorem dMo_leads_251 : decode bMo_leads 251 = .ok (.lload 4, 2) := by decide +kernel
theorem dMo_leads_253 : decode bMo_leads 253 = .ok (.lsub, 1) := by decide +kernel
theorem dMo_leads_254 : decode bMo_leads 254 = .ok (.lastore, 1) := by decide +kernel
theorem dMo_leads_255 : decode bMo_leads 255 = .ok (.aload_n 0, 1) := by decide +kernel
theorem dMo_leads_256 : decode bMo_leads 256 = .ok (.getfield 70, 3) := by decide +kernel
theorem dMo_leads_259 : decode bMo_leads 259 = .ok (.iload_n 3, 1) := by decide +kernel
theorem dMo_leads_260 : decode bMo_leads 260 = .ok (.lload 4, 2) := by decide +kernel
theorem dMo_leads_262 : decode bMo_leads 262 = .ok (.lload 6, 2) := by decide +kernel
theorem dMo_leads_264 : decode bMo_leads 264 = .ok (.lsub, 1) := by decide +kernel
theorem dMo_leads_265 : decode bMo_leads 265 = .ok (.lastore, 1) := by decide +kernel
theorem dMo_leads_266 : decode bMo_leads 266 = .ok (.lload_n 1, 1) := by decide +kernel
theorem dMo_leads_267 : decode bMo_leads 267 = .ok (.lload 6, 2) := by decide +kernel
theorem dMo_leads_269 : decode bMo_leads 269 = .ok (.ladd, 1) := by decide +kernel
theorem dMo_leads_270 : decode bMo_leads 270 = .ok (.lstore_n 1, 1) := by decide +kernel
theorem dMo_leads_271 : decode bMo_leads 271 = .ok (.iinc 3 1, 3) := by decide +kernel
theorem dMo_leads_274 : decode bMo_leads 274 = .ok (.goto (-90), 3) := by decide +kernel
theorem dMo_leads_277 : decode bMo_leads 277 = .ok (.lload_n 1, 1) := by decide +kernel
theorem dMo_leads_278 : decode bMo_leads 278 = .ok (.lreturn, 1) := by decide +kernel
theorem dMo_marks_0 : decode bMo_marks 0 = .ok (.aload_n 0, 1) := by decide +kernel
theorem dMo_marks_1 : decode bMo_marks 1 = .ok (.iconst 0, 1) := by decide +kernel
theorem dMo_marks_2 : decode bMo_marks 2 = .ok (.putfield 73, 3) := by decide +kernel
theorem dMo_marks_5 : decode bMo_marks 5 = .ok (.aload_n 0, 1) := by decide +kernel
theorem dMo_marks_6 : decode bMo_marks 6 = .ok (.iload 4, 2) := by decide +kernel
theorem dMo_marks_8 : decode bMo_marks 8 = .ok (.invokevirtual 335, 3) := by decide +kernel
theorem dMo_marks_11 : decode bMo_marks 11 = .ok (.ifCond .eq 25, 3) := by decide +kernel
theorem dMo_marks_14 : decode bMo_marks 14 = .ok (.iload 5, 2) := by decide +kernel
theorem dMo_marks_16 : decode bMo_marks 16 = .ok (.iconst 0, 1) := by decide +kernel
theorem dMo_marks_17 : decode bMo_marks 17 = .ok (.bipush 11, 2) := by decide +kernel
theorem dMo_marks_19 : decode bMo_marks 19 = .ok (.invokestatic 149, 3) := by decide +kernel
theorem dMo_marks_22 : decode bMo_marks 22 = .ok (.ifCond .eq 14, 3) := by decide +kernel
theorem dMo_marks_25 : decode bMo_marks 25 = .ok (.iload 6, 2) := by decide +kernel
theorem dMo_marks_27 : decode bMo_marks 27 = .ok (.iconst 0, 1) := by decide +kernel
theorem dMo_marks_28 : decode bMo_marks 28 = .ok (.bipush 11, 2) := by decide +kernel
theorem dMo_marks_30 : decode bMo_marks 30 = .ok (.invokestatic 149, 3) := by decide +kernel
theorem dMo_marks_33 : decode bMo_marks 33 = .ok (.ifCond .ne 9, 3) := by decide +kernel
theorem dMo_marks_36 : decode bMo_marks 36 = .ok (.aload_n 0, 1) := by decide +kernel
theorem dMo_marks_37 : decode bMo_marks 37 = .ok (.iconst 1, 1) := by decide +kernel
theorem dMo_marks_38 : decode bMo_marks 38 = .ok (.invokevirtual 283, 3) := by decide +kernel
theorem dMo_marks_41 : decode bMo_marks 41 = .ok (.ireturn, 1) := by decide +kernel
theorem dMo_marks_42 : decode bMo_marks 42 = .ok (.iload_n 1, 1) := by decide +kernel
theorem dMo_marks_43 : decode bMo_marks 43 = .ok (.iload_n 2, 1) := by decide +kernel
theorem dMo_marks_44 : decode bMo_marks 44 = .ok (.iload_n 3, 1) := by decide +kernel
theorem dMo_marks_45 : decode bMo_marks 45 = .ok (.invokestatic 366, 3) := by decide +kernel
theorem dMo_marks_48 : decode bMo_marks 48 = .ok (.ifCond .eq 10, 3) := by decide +kernel
theorem dMo_marks_51 : decode bMo_marks 51 = .ok (.iload 6, 2) := by decide +kernel
theorem dMo_marks_53 : decode bMo_marks 53 = .ok (.iload 5, 2) := by decide +kernel
theorem dMo_marks_55 : decode bMo_marks 55 = .ok (.if_icmp .ge 9, 3) := by decide +kernel
theorem dMo_marks_58 : decode bMo_marks 58 = .ok (.aload_n 0, 1) := by decide +kernel
theorem dMo_marks_59 : decode bMo_marks 59 = .ok (.iconst 2, 1) := by decide +kernel
theorem dMo_marks_60 : decode bMo_marks 60 = .ok (.invokevirtual 283, 3) := by decide +kernel
theorem dMo_marks_63 : decode bMo_marks 63 = .ok (.ireturn, 1) := by decide +kernel
theorem dMo_marks_64 : decode bMo_marks 64 = .ok (.aload_n 0, 1) := by decide +kernel
theorem dMo_marks_65 : decode bMo_marks 65 = .ok (.aload_n 0, 1) := by decide +kernel
theorem dMo_marks_66 : decode bMo_marks 66 = .ok (.getfield 21, 3) := by decide +kernel
theorem dMo_marks_69 : decode bMo_marks 69 = .ok (.iload_n 1, 1) := by decide +kernel
theorem dMo_marks_70 : decode bMo_marks 70 = .ok (.iload_n 2, 1) := by decide +kernel
theorem dMo_marks_71 : decode bMo_marks 71 = .ok (.iload_n 3, 1) := by decide +kernel
theorem dMo_marks_72 : decode bMo_marks 72 = .ok (.invokevirtual 343, 3) := by decide +kernel
theorem dMo_marks_75 : decode bMo_marks 75 = .ok (.iconst 0, 1) := by decide +kernel
theorem dMo_marks_76 : decode bMo_marks 76 = .ok (.istore 7, 2) := by decide +kernel
theorem dMo_marks_78 : decode bMo_marks 78 = .ok (.iload 7, 2) := by decide +kernel
theorem dMo_marks_80 : decode bMo_marks 80 = .ok (.iconst 5, 1) := by decide +kernel
theorem dMo_marks_81 : decode bMo_marks 81 = .ok (.if_icmp .ge 38, 3) := by decide +kernel
theorem dMo_marks_84 : decode bMo_marks 84 = .ok (.aload_n 0, 1) := by decide +kernel
theorem dMo_marks_85 : decode bMo_marks 85 = .ok (.getfield 66, 3) := by decide +kernel
theorem dMo_marks_88 : decode bMo_marks 88 = .ok (.iload 7, 2) := by decide +kernel
theorem dMo_marks_90 : decode bMo_marks 90 = .ok (.iload 7, 2) := by decide +kernel
theorem dMo_marks_92 : decode bMo_marks 92 = .ok (.iload 4, 2) := by decide +kernel
theorem dMo_marks_94 : decode bMo_marks 94 = .ok (.if_icmp .ne 9, 3) := by decide +kernel
theorem dMo_marks_97 : decode bMo_marks 97 = .ok (.ldc2_w 388, 3) := by decide +kernel
theorem dMo_marks_100 : decode bMo_marks 100 = .ok (.goto 4, 3) := by decide +kernel
theorem dMo_marks_103 : decode bMo_marks 103 = .ok (.lconst 0, 1) := by decide +kernel
theorem dMo_marks_104 : decode bMo_marks 104 = .ok (.lastore, 1) := by decide +kernel
theorem dMo_marks_105 : decode bMo_marks 105 = .ok (.aload_n 0, 1) := by decide +kernel
theorem dMo_marks_106 : decode bMo_marks 106 = .ok (.getfield 70, 3) := by decide +kernel
theorem dMo_marks_109 : decode bMo_marks 109 = .ok (.iload 7, 2) := by decide +kernel
theorem dMo_marks_111 : decode bMo_marks 111 = .ok (.lconst 0, 1) := by decide +kernel
theorem dMo_marks_112 : decode bMo_marks 112 = .ok (.lastore, 1) := by decide +kernel
theorem dMo_marks_113 : decode bMo_marks 113 = .ok (.iinc 7 1, 3) := by decide +kernel
theorem dMo_marks_116 : decode bMo_marks 116 = .ok (.goto (-38), 3) := by decide +kernel
theorem dMo_marks_119 : decode bMo_marks 119 = .ok (.lconst 0, 1) := by decide +kernel
theorem dMo_marks_120 : decode bMo_marks 120 = .ok (.lstore 7, 2) := by decide +kernel
theorem dMo_marks_122 : decode bMo_marks 122 = .ok (.iconst 0, 1) := by decide +kernel
theorem dMo_marks_123 : decode bMo_marks 123 = .ok (.istore 9, 2) := by decide +kernel
theorem dMo_marks_125 : decode bMo_marks 125 = .ok (.iload 9, 2) := by decide +kernel
theorem dMo_marks_127 : decode bMo_marks 127 = .ok (.iload 6, 2) := by decide +kernel
theorem dMo_marks_129 : decode bMo_marks 129 = .ok (.if_icmp .gt 35, 3) := by decide +kernel
theorem dMo_marks_132 : decode bMo_marks 132 = .ok (.aload_n 0, 1) := by decide +kernel
theorem dMo_marks_133 : decode bMo_marks 133 = .ok (.aload_n 0, 1) := by decide +kernel
theorem dMo_marks_134 : decode bMo_marks 134 = .ok (.getfield 21, 3) := by decide +kernel
theorem dMo_marks_137 : decode bMo_marks 137 = .ok (.iload 9, 2) := by decide +kernel
theorem dMo_marks_139 : decode bMo_marks 139 = .ok (.invokevirtual 347, 3) := by decide +kernel
theorem dMo_marks_142 : decode bMo_marks 142 = .ok (.iload 9, 2) := by decide +kernel
theorem dMo_marks_144 : decode bMo_marks 144 = .ok (.iload 5, 2) := by decide +kernel
theorem dMo_marks_146 : decode bMo_marks 146 = .ok (.if_icmp .lt 12, 3) := by decide +kernel
theorem dMo_marks_149 : decode bMo_marks 149 = .ok (.lload 7, 2) := by decide +kernel
theorem dMo_marks_151 : decode bMo_marks 151 = .ok (.aload_n 0, 1) := by decide +kernel
theorem dMo_marks_152 : decode bMo_marks 152 = .ok (.invokevirtual 390, 3) := by decide +kernel
theorem dMo_marks_155 : decode bMo_marks 155 = .ok (.ladd, 1) := by decide +kernel
theorem dMo_marks_156 : decode bMo_marks 156 = .ok (.lstore 7, 2) := by decide +kernel
theorem dMo_marks_158 : decode bMo_marks 158 = .ok (.iinc 9 1, 3) := by decide +kernel
theorem dMo_marks_161 : decode bMo_marks 161 = .ok (.goto (-36), 3) := by decide +kernel
theorem dMo_marks_164 : decode bMo_marks 164 = .ok (.aload_n 0, 1) := by decide +kernel
theorem dMo_marks_165 : decode bMo_marks 165 = .ok (.lload 7, 2) := by decide +kernel
theorem dMo_marks_167 : decode bMo_marks 167 = .ok (.l2i, 1) := by decide +kernel
theorem dMo_marks_168 : decode bMo_marks 168 = .ok (.invokevirtual 302, 3) := by decide +kernel
theorem dMo_marks_171 : decode bMo_marks 171 = .ok (.ireturn, 1) := by decide +kernel
theorem dMo_led_0 : decode bMo_led 0 = .ok (.aload_n 0, 1) := by decide +kernel
theorem dMo_led_1 : decode bMo_led 1 = .ok (.iload_n 1, 1) := by decide +kernel
theorem dMo_led_2 : decode bMo_led 2 = .ok (.ifCond .lt 11, 3) := by decide +kernel
theorem dMo_led_5 : decode bMo_led 5 = .ok (.iload_n 1, 1) := by decide +kernel
theorem dMo_led_6 : decode bMo_led 6 = .ok (.aload_n 0, 1) := by decide +kernel
theorem dMo_led_7 : decode bMo_led 7 = .ok (.getfield 299, 3) := by decide +kernel
theorem dMo_led_10 : decode bMo_led 10 = .ok (.if_icmp .lt 7, 3) := by decide +kernel
theorem dMo_led_13 : decode bMo_led 13 = .ok (.iconst 1, 1) := by decide +kernel
theorem dMo_led_14 : decode bMo_led 14 = .ok (.goto 4, 3) := by decide +kernel
theorem dMo_led_17 : decode bMo_led 17 = .ok (.iconst 0, 1) := by decide +kernel
theorem dMo_led_18 : decode bMo_led 18 = .ok (.putfield 73, 3) := by decide +kernel
theorem dMo_led_21 : decode bMo_led 21 = .ok (.aload_n 0, 1) := by decide +kernel
theorem dMo_led_22 : decode bMo_led 22 = .ok (.getfield 73, 3) := by decide +kernel
theorem dMo_led_25 : decode bMo_led 25 = .ok (.ifCond .le 7, 3) := by decide +kernel
theorem dMo_led_28 : decode bMo_led 28 = .ok (.iconst 0, 1) := by decide +kernel
theorem dMo_led_29 : decode bMo_led 29 = .ok (.goto 9, 3) := by decide +kernel
theorem dMo_led_32 : decode bMo_led 32 = .ok (.aload_n 0, 1) := by decide +kernel
theorem dMo_led_33 : decode bMo_led 33 = .ok (.getfield 24, 3) := by decide +kernel
theorem dMo_led_36 : decode bMo_led 36 = .ok (.iload_n 1, 1) := by decide +kernel
theorem dMo_led_37 : decode bMo_led 37 = .ok (.iaload, 1) := by decide +kernel
theorem dMo_led_38 : decode bMo_led 38 = .ok (.ireturn, 1) := by decide +kernel
theorem dMo_size_0 : decode bMo_size 0 = .ok (.aload_n 0, 1) := by decide +kernel
theorem dMo_size_1 : decode bMo_size 1 = .ok (.iconst 0, 1) := by decide +kernel
theorem dMo_size_2 : decode bMo_size 2 = .ok (.putfield 73, 3) := by decide +kernel
theorem dMo_size_5 : decode bMo_size 5 = .ok (.iload_n 1, 1) := by decide +kernel
theorem dMo_size_6 : decode bMo_size 6 = .ok (.bipush 11, 2) := by decide +kernel
theorem dMo_size_8 : decode bMo_size 8 = .ok (.if_icmp .ne 8, 3) := by decide +kernel
theorem dMo_size_11 : decode bMo_size 11 = .ok (.aload_n 0, 1) := by decide +kernel
theorem dMo_size_12 : decode bMo_size 12 = .ok (.getfield 280, 3) := by decide +kernel
theorem dMo_size_15 : decode bMo_size 15 = .ok (.ireturn, 1) := by decide +kernel
theorem dMo_size_16 : decode bMo_size 16 = .ok (.iload_n 1, 1) := by decide +kernel
theorem dMo_size_17 : decode bMo_size 17 = .ok (.iconst 0, 1) := by decide +kernel
theorem dMo_size_18 : decode bMo_size 18 = .ok (.bipush 10, 2) := by decide +kernel
theorem dMo_size_20 : decode bMo_size 20 = .ok (.invokestatic 149, 3) := by decide +kernel
theorem dMo_size_23 : decode bMo_size 23 = .ok (.ifCond .ne 5, 3) := by decide +kernel
theorem dMo_size_26 : decode bMo_size 26 = .ok (.iconst (-1), 1) := by decide +kernel
theorem dMo_size_27 : decode bMo_size 27 = .ok (.ireturn, 1) := by decide +kernel
theorem dMo_size_28 : decode bMo_size 28 = .ok (.aload_n 0, 1) := by decide +kernel
theorem dMo_size_29 : decode bMo_size 29 = .ok (.getfield 290, 3) := by decide +kernel
theorem dMo_size_32 : decode bMo_size 32 = .ok (.ifnonnull 5, 3) := by decide +kernel
theorem dMo_size_35 : decode bMo_size 35 = .ok (.iconst 0, 1) := by decide +kernel
theorem dMo_size_36 : decode bMo_size 36 = .ok (.ireturn, 1) := by decide +kernel
theorem dMo_size_37 : decode bMo_size 37 = .ok (.iload_n 1, 1) := by decide +kernel
theorem dMo_size_38 : decode bMo_size 38 = .ok (.tableswitch 134 0 9 #[54, 62, 70, 78, 86, 94, 102, 110, 118, 126], 54) := by decide +kernel
theorem dMo_size_92 : decode bMo_size 92 = .ok (.aload_n 0, 1) := by decide +kernel
theorem dMo_size_93 : decode bMo_size 93 = .ok (.getfield 290, 3) := by decide +kernel
theorem dMo_size_96 : decode bMo_size 96 = .ok (.getfield 191, 3) := by decide +kernel
theorem dMo_size_99 : decode bMo_size 99 = .ok (.ireturn, 1) := by decide +kernel
theorem dMo_size_100 : decode bMo_size 100 = .ok (.aload_n 0, 1) := by decide +kernel
theorem dMo_size_101 : decode bMo_size 101 = .ok (.getfield 290, 3) := by decide +kernel
theorem dMo_size_104 : decode bMo_size 104 = .ok (.getfield 194, 3) := by decide +kernel
theorem dMo_size_107 : decode bMo_size 107 = .ok (.ireturn, 1) := by decide +kernel
theorem dMo_size_108 : decode bMo_size 108 = .ok (.aload_n 0, 1) := by decide +kernel
theorem dMo_size_109 : decode bMo_size 109 = .ok (.getfield 290, 3) := by decide +kernel
theorem dMo_size_112 : decode bMo_size 112 = .ok (.getfield 176, 3) := by decide +kernel
theorem dMo_size_115 : decode bMo_size 115 = .ok (.ireturn, 1) := by decide +kernel
theorem dMo_size_116 : decode bMo_size 116 = .ok (.aload_n 0, 1) := by decide +kernel
theorem dMo_size_117 : decode bMo_size 117 = .ok (.getfield 290, 3) := by decide +kernel
theorem dMo_size_120 : decode bMo_size 120 = .ok (.getfield 233, 3) := by decide +kernel
theorem dMo_size_123 : decode bMo_size 123 = .ok (.ireturn, 1) := by decide +kernel
theorem dMo_size_124 : decode bMo_size 124 = .ok (.aload_n 0, 1) := by decide +kernel
theorem dMo_size_125 : decode bMo_size 125 = .ok (.getfield 290, 3) := by decide +kernel
theorem dMo_size_128 : decode bMo_size 128 = .ok (.getfield 181, 3) := by decide +kernel
theorem dMo_size_131 : decode bMo_size 131 = .ok (.ireturn, 1) := by decide +kernel
theorem dMo_size_132 : decode bMo_size 132 = .ok (.aload_n 0, 1) := by decide +kernel
theorem dMo_size_133 : decode bMo_size 133 = .ok (.getfield 290, 3) := by decide +kernel
theorem dMo_size_136 : decode bMo_size 136 = .ok (.getfield 248, 3) := by decide +kernel
theorem dMo_size_139 : decode bMo_size 139 = .ok (.ireturn, 1) := by decide +kernel
theorem dMo_size_140 : decode bMo_size 140 = .ok (.aload_n 0, 1) := by decide +kernel
theorem dMo_size_141 : decode bMo_size 141 = .ok (.getfield 290, 3) := by decide +kernel
theorem dMo_size_144 : decode bMo_size 144 = .ok (.getfield 183, 3) := by decide +kernel
theorem dMo_size_147 : decode bMo_size 147 = .ok (.ireturn, 1) := by decide +kernel
theorem dMo_size_148 : decode bMo_size 148 = .ok (.aload_n 0, 1) := by decide +kernel
theorem dMo_size_149 : decode bMo_size 149 = .ok (.getfield 290, 3) := by decide +kernel
theorem dMo_size_152 : decode bMo_size 152 = .ok (.getfield 186, 3) := by decide +kernel
theorem dMo_size_155 : decode bMo_size 155 = .ok (.ireturn, 1) := by decide +kernel
theorem dMo_size_156 : decode bMo_size 156 = .ok (.aload_n 0, 1) := by decide +kernel
theorem dMo_size_157 : decode bMo_size 157 = .ok (.getfield 290, 3) := by decide +kernel
theorem dMo_size_160 : decode bMo_size 160 = .ok (.getfield 252, 3) := by decide +kernel
theorem dMo_size_163 : decode bMo_size 163 = .ok (.ireturn, 1) := by decide +kernel
theorem dMo_size_164 : decode bMo_size 164 = .ok (.aload_n 0, 1) := by decide +kernel
theorem dMo_size_165 : decode bMo_size 165 = .ok (.getfield 290, 3) := by decide +kernel
theorem dMo_size_168 : decode bMo_size 168 = .ok (.getfield 188, 3) := by decide +kernel
theorem dMo_size_171 : decode bMo_size 171 = .ok (.ireturn, 1) := by decide +kernel
theorem dMo_size_172 : decode bMo_size 172 = .ok (.aload_n 0, 1) := by decide +kernel
theorem dMo_size_173 : decode bMo_size 173 = .ok (.getfield 293, 3) := by decide +kernel
theorem dMo_size_176 : decode bMo_size 176 = .ok (.ireturn, 1) := by decide +kernel
theorem dMo_trouble_0 : decode bMo_trouble 0 = .ok (.aload_n 0, 1) := by decide +kernel
theorem dMo_trouble_1 : decode bMo_trouble 1 = .ok (.iconst 0, 1) := by decide +kernel
theorem dMo_trouble_2 : decode bMo_trouble 2 = .ok (.putfield 73, 3) := by decide +kernel
theorem dMo_trouble_5 : decode bMo_trouble 5 = .ok (.aload_n 0, 1) := by decide +kernel
theorem dMo_trouble_6 : decode bMo_trouble 6 = .ok (.getfield 76, 3) := by decide +kernel
theorem dMo_trouble_9 : decode bMo_trouble 9 = .ok (.ireturn, 1) := by decide +kernel
