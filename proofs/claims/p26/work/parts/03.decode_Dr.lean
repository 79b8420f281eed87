theorem dDr_init_0 : decode bDr_init 0 = .ok (.aload_n 0, 1) := by decide +kernel
theorem dDr_init_1 : decode bDr_init 1 = .ok (.invokespecial 3, 3) := by decide +kernel
theorem dDr_init_4 : decode bDr_init 4 = .ok (.aload_n 0, 1) := by decide +kernel
theorem dDr_init_5 : decode bDr_init 5 = .ok (.new 9, 3) := by decide +kernel
theorem dDr_init_8 : decode bDr_init 8 = .ok (.dup, 1) := by decide +kernel
theorem dDr_init_9 : decode bDr_init 9 = .ok (.invokespecial 11, 3) := by decide +kernel
theorem dDr_init_12 : decode bDr_init 12 = .ok (.putfield 12, 3) := by decide +kernel
theorem dDr_init_15 : decode bDr_init 15 = .ok (.aload_n 0, 1) := by decide +kernel
theorem dDr_init_16 : decode bDr_init 16 = .ok (.iconst 5, 1) := by decide +kernel
theorem dDr_init_17 : decode bDr_init 17 = .ok (.newarray .int, 2) := by decide +kernel
theorem dDr_init_19 : decode bDr_init 19 = .ok (.putfield 18, 3) := by decide +kernel
theorem dDr_init_22 : decode bDr_init 22 = .ok (.return_, 1) := by decide +kernel
theorem dDr_beginEmpty_0 : decode bDr_beginEmpty 0 = .ok (.aload_n 0, 1) := by decide +kernel
theorem dDr_beginEmpty_1 : decode bDr_beginEmpty 1 = .ok (.getfield 12, 3) := by decide +kernel
theorem dDr_beginEmpty_4 : decode bDr_beginEmpty 4 = .ok (.invokevirtual 22, 3) := by decide +kernel
theorem dDr_beginEmpty_7 : decode bDr_beginEmpty 7 = .ok (.aload_n 0, 1) := by decide +kernel
theorem dDr_beginEmpty_8 : decode bDr_beginEmpty 8 = .ok (.getfield 18, 3) := by decide +kernel
theorem dDr_beginEmpty_11 : decode bDr_beginEmpty 11 = .ok (.invokestatic 25, 3) := by decide +kernel
theorem dDr_beginEmpty_14 : decode bDr_beginEmpty 14 = .ok (.aload_n 0, 1) := by decide +kernel
theorem dDr_beginEmpty_15 : decode bDr_beginEmpty 15 = .ok (.iconst 0, 1) := by decide +kernel
theorem dDr_beginEmpty_16 : decode bDr_beginEmpty 16 = .ok (.putfield 29, 3) := by decide +kernel
theorem dDr_beginEmpty_19 : decode bDr_beginEmpty 19 = .ok (.aload_n 0, 1) := by decide +kernel
theorem dDr_beginEmpty_20 : decode bDr_beginEmpty 20 = .ok (.iconst 0, 1) := by decide +kernel
theorem dDr_beginEmpty_21 : decode bDr_beginEmpty 21 = .ok (.putfield 33, 3) := by decide +kernel
theorem dDr_beginEmpty_24 : decode bDr_beginEmpty 24 = .ok (.aload_n 0, 1) := by decide +kernel
theorem dDr_beginEmpty_25 : decode bDr_beginEmpty 25 = .ok (.iconst 0, 1) := by decide +kernel
theorem dDr_beginEmpty_26 : decode bDr_beginEmpty 26 = .ok (.putfield 36, 3) := by decide +kernel
theorem dDr_beginEmpty_29 : decode bDr_beginEmpty 29 = .ok (.aload_n 0, 1) := by decide +kernel
theorem dDr_beginEmpty_30 : decode bDr_beginEmpty 30 = .ok (.iconst 0, 1) := by decide +kernel
theorem dDr_beginEmpty_31 : decode bDr_beginEmpty 31 = .ok (.putfield 39, 3) := by decide +kernel
theorem dDr_beginEmpty_34 : decode bDr_beginEmpty 34 = .ok (.aload_n 0, 1) := by decide +kernel
theorem dDr_beginEmpty_35 : decode bDr_beginEmpty 35 = .ok (.iconst 0, 1) := by decide +kernel
theorem dDr_beginEmpty_36 : decode bDr_beginEmpty 36 = .ok (.putfield 43, 3) := by decide +kernel
theorem dDr_beginEmpty_39 : decode bDr_beginEmpty 39 = .ok (.aload_n 0, 1) := by decide +kernel
theorem dDr_beginEmpty_40 : decode bDr_beginEmpty 40 = .ok (.iconst 0, 1) := by decide +kernel
theorem dDr_beginEmpty_41 : decode bDr_beginEmpty 41 = .ok (.putfield 46, 3) := by decide +kernel
theorem dDr_beginEmpty_44 : decode bDr_beginEmpty 44 = .ok (.aload_n 0, 1) := by decide +kernel
theorem dDr_beginEmpty_45 : decode bDr_beginEmpty 45 = .ok (.iconst 0, 1) := by decide +kernel
theorem dDr_beginEmpty_46 : decode bDr_beginEmpty 46 = .ok (.putfield 49, 3) := by decide +kernel
theorem dDr_beginEmpty_49 : decode bDr_beginEmpty 49 = .ok (.aload_n 0, 1) := by decide +kernel
theorem dDr_beginEmpty_50 : decode bDr_beginEmpty 50 = .ok (.iconst 0, 1) := by decide +kernel
theorem dDr_beginEmpty_51 : decode bDr_beginEmpty 51 = .ok (.putfield 52, 3) := by decide +kernel
theorem dDr_beginEmpty_54 : decode bDr_beginEmpty 54 = .ok (.aload_n 0, 1) := by decide +kernel
theorem dDr_beginEmpty_55 : decode bDr_beginEmpty 55 = .ok (.iconst 0, 1) := by decide +kernel
theorem dDr_beginEmpty_56 : decode bDr_beginEmpty 56 = .ok (.putfield 55, 3) := by decide +kernel
theorem dDr_beginEmpty_59 : decode bDr_beginEmpty 59 = .ok (.aload_n 0, 1) := by decide +kernel
theorem dDr_beginEmpty_60 : decode bDr_beginEmpty 60 = .ok (.iconst 0, 1) := by decide +kernel
theorem dDr_beginEmpty_61 : decode bDr_beginEmpty 61 = .ok (.putfield 58, 3) := by decide +kernel
theorem dDr_beginEmpty_64 : decode bDr_beginEmpty 64 = .ok (.aload_n 0, 1) := by decide +kernel
theorem dDr_beginEmpty_65 : decode bDr_beginEmpty 65 = .ok (.iconst 0, 1) := by decide +kernel
theorem dDr_beginEmpty_66 : decode bDr_beginEmpty 66 = .ok (.putfield 61, 3) := by decide +kernel
theorem dDr_beginEmpty_69 : decode bDr_beginEmpty 69 = .ok (.aload_n 0, 1) := by decide +kernel
theorem dDr_beginEmpty_70 : decode bDr_beginEmpty 70 = .ok (.iconst 0, 1) := by decide +kernel
theorem dDr_beginEmpty_71 : decode bDr_beginEmpty 71 = .ok (.putfield 64, 3) := by decide +kernel
theorem dDr_beginEmpty_74 : decode bDr_beginEmpty 74 = .ok (.aload_n 0, 1) := by decide +kernel
theorem dDr_beginEmpty_75 : decode bDr_beginEmpty 75 = .ok (.iconst 0, 1) := by decide +kernel
theorem dDr_beginEmpty_76 : decode bDr_beginEmpty 76 = .ok (.putfield 67, 3) := by decide +kernel
theorem dDr_beginEmpty_79 : decode bDr_beginEmpty 79 = .ok (.aload_n 0, 1) := by decide +kernel
theorem dDr_beginEmpty_80 : decode bDr_beginEmpty 80 = .ok (.iconst 0, 1) := by decide +kernel
theorem dDr_beginEmpty_81 : decode bDr_beginEmpty 81 = .ok (.putfield 70, 3) := by decide +kernel
theorem dDr_beginEmpty_84 : decode bDr_beginEmpty 84 = .ok (.aload_n 0, 1) := by decide +kernel
theorem dDr_beginEmpty_85 : decode bDr_beginEmpty 85 = .ok (.iconst 0, 1) := by decide +kernel
theorem dDr_beginEmpty_86 : decode bDr_beginEmpty 86 = .ok (.putfield 73, 3) := by decide +kernel
theorem dDr_beginEmpty_89 : decode bDr_beginEmpty 89 = .ok (.return_, 1) := by decide +kernel
theorem dDr_beginStart_0 : decode bDr_beginStart 0 = .ok (.aload_n 0, 1) := by decide +kernel
theorem dDr_beginStart_1 : decode bDr_beginStart 1 = .ok (.invokevirtual 76, 3) := by decide +kernel
theorem dDr_beginStart_4 : decode bDr_beginStart 4 = .ok (.aload_n 0, 1) := by decide +kernel
theorem dDr_beginStart_5 : decode bDr_beginStart 5 = .ok (.iload_n 2, 1) := by decide +kernel
theorem dDr_beginStart_6 : decode bDr_beginStart 6 = .ok (.iconst 0, 1) := by decide +kernel
theorem dDr_beginStart_7 : decode bDr_beginStart 7 = .ok (.invokestatic 79, 3) := by decide +kernel
theorem dDr_beginStart_10 : decode bDr_beginStart 10 = .ok (.putfield 36, 3) := by decide +kernel
theorem dDr_beginStart_13 : decode bDr_beginStart 13 = .ok (.aload_n 0, 1) := by decide +kernel
theorem dDr_beginStart_14 : decode bDr_beginStart 14 = .ok (.aload_n 1, 1) := by decide +kernel
theorem dDr_beginStart_15 : decode bDr_beginStart 15 = .ok (.getfield 83, 3) := by decide +kernel
theorem dDr_beginStart_18 : decode bDr_beginStart 18 = .ok (.iload_n 2, 1) := by decide +kernel
theorem dDr_beginStart_19 : decode bDr_beginStart 19 = .ok (.iconst 1, 1) := by decide +kernel
theorem dDr_beginStart_20 : decode bDr_beginStart 20 = .ok (.invokestatic 79, 3) := by decide +kernel
theorem dDr_beginStart_23 : decode bDr_beginStart 23 = .ok (.iconst 4, 1) := by decide +kernel
theorem dDr_beginStart_24 : decode bDr_beginStart 24 = .ok (.invokestatic 88, 3) := by decide +kernel
theorem dDr_beginStart_27 : decode bDr_beginStart 27 = .ok (.putfield 33, 3) := by decide +kernel
theorem dDr_beginStart_30 : decode bDr_beginStart 30 = .ok (.aload_n 0, 1) := by decide +kernel
theorem dDr_beginStart_31 : decode bDr_beginStart 31 = .ok (.aload_n 1, 1) := by decide +kernel
theorem dDr_beginStart_32 : decode bDr_beginStart 32 = .ok (.getfield 92, 3) := by decide +kernel
theorem dDr_beginStart_35 : decode bDr_beginStart 35 = .ok (.iconst 2, 1) := by decide +kernel
theorem dDr_beginStart_36 : decode bDr_beginStart 36 = .ok (.idiv, 1) := by decide +kernel
theorem dDr_beginStart_37 : decode bDr_beginStart 37 = .ok (.putfield 29, 3) := by decide +kernel
theorem dDr_beginStart_40 : decode bDr_beginStart 40 = .ok (.iload_n 2, 1) := by decide +kernel
theorem dDr_beginStart_41 : decode bDr_beginStart 41 = .ok (.iconst 2, 1) := by decide +kernel
theorem dDr_beginStart_42 : decode bDr_beginStart 42 = .ok (.invokestatic 79, 3) := by decide +kernel
theorem dDr_beginStart_45 : decode bDr_beginStart 45 = .ok (.istore_n 3, 1) := by decide +kernel
theorem dDr_beginStart_46 : decode bDr_beginStart 46 = .ok (.iconst 0, 1) := by decide +kernel
theorem dDr_beginStart_47 : decode bDr_beginStart 47 = .ok (.istore 4, 2) := by decide +kernel
theorem dDr_beginStart_49 : decode bDr_beginStart 49 = .ok (.iload 4, 2) := by decide +kernel
theorem dDr_beginStart_51 : decode bDr_beginStart 51 = .ok (.iconst 5, 1) := by decide +kernel
theorem dDr_beginStart_52 : decode bDr_beginStart 52 = .ok (.if_icmp .ge 28, 3) := by decide +kernel
theorem dDr_beginStart_55 : decode bDr_beginStart 55 = .ok (.aload_n 0, 1) := by decide +kernel
theorem dDr_beginStart_56 : decode bDr_beginStart 56 = .ok (.getfield 12, 3) := by decide +kernel
theorem dDr_beginStart_59 : decode bDr_beginStart 59 = .ok (.getfield 95, 3) := by decide +kernel
theorem dDr_beginStart_62 : decode bDr_beginStart 62 = .ok (.iload 4, 2) := by decide +kernel
theorem dDr_beginStart_64 : decode bDr_beginStart 64 = .ok (.iload_n 3, 1) := by decide +kernel
theorem dDr_beginStart_65 : decode bDr_beginStart 65 = .ok (.aload_n 1, 1) := by decide +kernel
theorem dDr_beginStart_66 : decode bDr_beginStart 66 = .ok (.iconst 0, 1) := by decide +kernel
theorem dDr_beginStart_67 : decode bDr_beginStart 67 = .ok (.iload 4, 2) := by decide +kernel
theorem dDr_beginStart_69 : decode bDr_beginStart 69 = .ok (.invokevirtual 98, 3) := by decide +kernel
theorem dDr_beginStart_72 : decode bDr_beginStart 72 = .ok (.imul, 1) := by decide +kernel
theorem dDr_beginStart_73 : decode bDr_beginStart 73 = .ok (.iastore, 1) := by decide +kernel
theorem dDr_beginStart_74 : decode bDr_beginStart 74 = .ok (.iinc 4 1, 3) := by decide +kernel
theorem dDr_beginStart_77 : decode bDr_beginStart 77 = .ok (.goto (-28), 3) := by decide +kernel
theorem dDr_beginStart_80 : decode bDr_beginStart 80 = .ok (.return_, 1) := by decide +kernel
theorem dDr_copyFrom_0 : decode bDr_copyFrom 0 = .ok (.aload_n 0, 1) := by decide +kernel
theorem dDr_copyFrom_1 : decode bDr_copyFrom 1 = .ok (.getfield 12, 3) := by decide +kernel
theorem dDr_copyFrom_4 : decode bDr_copyFrom 4 = .ok (.aload_n 1, 1) := by decide +kernel
theorem dDr_copyFrom_5 : decode bDr_copyFrom 5 = .ok (.getfield 12, 3) := by decide +kernel
theorem dDr_copyFrom_8 : decode bDr_copyFrom 8 = .ok (.invokevirtual 101, 3) := by decide +kernel
theorem dDr_copyFrom_11 : decode bDr_copyFrom 11 = .ok (.aload_n 1, 1) := by decide +kernel
theorem dDr_copyFrom_12 : decode bDr_copyFrom 12 = .ok (.getfield 18, 3) := by decide +kernel
theorem dDr_copyFrom_15 : decode bDr_copyFrom 15 = .ok (.aload_n 0, 1) := by decide +kernel
theorem dDr_copyFrom_16 : decode bDr_copyFrom 16 = .ok (.getfield 18, 3) := by decide +kernel
theorem dDr_copyFrom_19 : decode bDr_copyFrom 19 = .ok (.invokestatic 105, 3) := by decide +kernel
theorem dDr_copyFrom_22 : decode bDr_copyFrom 22 = .ok (.aload_n 0, 1) := by decide +kernel
theorem dDr_copyFrom_23 : decode bDr_copyFrom 23 = .ok (.aload_n 1, 1) := by decide +kernel
theorem dDr_copyFrom_24 : decode bDr_copyFrom 24 = .ok (.getfield 29, 3) := by decide +kernel
theorem dDr_copyFrom_27 : decode bDr_copyFrom 27 = .ok (.putfield 29, 3) := by decide +kernel
theorem dDr_copyFrom_30 : decode bDr_copyFrom 30 = .ok (.aload_n 0, 1) := by decide +kernel
theorem dDr_copyFrom_31 : decode bDr_copyFrom 31 = .ok (.aload_n 1, 1) := by decide +kernel
theorem dDr_copyFrom_32 : decode bDr_copyFrom 32 = .ok (.getfield 33, 3) := by decide +kernel
theorem dDr_copyFrom_35 : decode bDr_copyFrom 35 = .ok (.putfield 33, 3) := by decide +kernel
theorem dDr_copyFrom_38 : decode bDr_copyFrom 38 = .ok (.aload_n 0, 1) := by decide +kernel
theorem dDr_copyFrom_39 : decode bDr_copyFrom 39 = .ok (.aload_n 1, 1) := by decide +kernel
theorem dDr_copyFrom_40 : decode bDr_copyFrom 40 = .ok (.getfield 36, 3) := by decide +kernel
theorem dDr_copyFrom_43 : decode bDr_copyFrom 43 = .ok (.putfield 36, 3) := by decide +kernel
theorem dDr_copyFrom_46 : decode bDr_copyFrom 46 = .ok (.aload_n 0, 1) := by decide +kernel
theorem dDr_copyFrom_47 : decode bDr_copyFrom 47 = .ok (.aload_n 1, 1) := by decide +kernel
theorem dDr_copyFrom_48 : decode bDr_copyFrom 48 = .ok (.getfield 39, 3) := by decide +kernel
theorem dDr_copyFrom_51 : decode bDr_copyFrom 51 = .ok (.putfield 39, 3) := by decide +kernel
theorem dDr_copyFrom_54 : decode bDr_copyFrom 54 = .ok (.aload_n 0, 1) := by decide +kernel
theorem dDr_copyFrom_55 : decode bDr_copyFrom 55 = .ok (.aload_n 1, 1) := by decide +kernel
theorem dDr_copyFrom_56 : decode bDr_copyFrom 56 = .ok (.getfield 43, 3) := by decide +kernel
theorem dDr_copyFrom_59 : decode bDr_copyFrom 59 = .ok (.putfield 43, 3) := by decide +kernel
theorem dDr_copyFrom_62 : decode bDr_copyFrom 62 = .ok (.aload_n 0, 1) := by decide +kernel
theorem dDr_copyFrom_63 : decode bDr_copyFrom 63 = .ok (.aload_n 1, 1) := by decide +kernel
theorem dDr_copyFrom_64 : decode bDr_copyFrom 64 = .ok (.getfield 46, 3) := by decide +kernel
theorem dDr_copyFrom_67 : decode bDr_copyFrom 67 = .ok (.putfield 46, 3) := by decide +kernel
theorem dDr_copyFrom_70 : decode bDr_copyFrom 70 = .ok (.aload_n 0, 1) := by decide +kernel
theorem dDr_copyFrom_71 : decode bDr_copyFrom 71 = .ok (.aload_n 1, 1) := by decide +kernel
theorem dDr_copyFrom_72 : decode bDr_copyFrom 72 = .ok (.getfield 49, 3) := by decide +kernel
theorem dDr_copyFrom_75 : decode bDr_copyFrom 75 = .ok (.putfield 49, 3) := by decide +kernel
theorem dDr_copyFrom_78 : decode bDr_copyFrom 78 = .ok (.aload_n 0, 1) := by decide +kernel
theorem dDr_copyFrom_79 : decode bDr_copyFrom 79 = .ok (.aload_n 1, 1) := by decide +kernel
theorem dDr_copyFrom_80 : decode bDr_copyFrom 80 = .ok (.getfield 52, 3) := by decide +kernel
theorem dDr_copyFrom_83 : decode bDr_copyFrom 83 = .ok (.putfield 52, 3) := by decide +kernel
theorem dDr_copyFrom_86 : decode bDr_copyFrom 86 = .ok (.aload_n 0, 1) := by decide +kernel
theorem dDr_copyFrom_87 : decode bDr_copyFrom 87 = .ok (.aload_n 1, 1) := by decide +kernel
theorem dDr_copyFrom_88 : decode bDr_copyFrom 88 = .ok (.getfield 55, 3) := by decide +kernel
theorem dDr_copyFrom_91 : decode bDr_copyFrom 91 = .ok (.putfield 55, 3) := by decide +kernel
theorem dDr_copyFrom_94 : decode bDr_copyFrom 94 = .ok (.aload_n 0, 1) := by decide +kernel
theorem dDr_copyFrom_95 : decode bDr_copyFrom 95 = .ok (.aload_n 1, 1) := by decide +kernel
theorem dDr_copyFrom_96 : decode bDr_copyFrom 96 = .ok (.getfield 58, 3) := by decide +kernel
theorem dDr_copyFrom_99 : decode bDr_copyFrom 99 = .ok (.putfield 58, 3) := by decide +kernel
theorem dDr_copyFrom_102 : decode bDr_copyFrom 102 = .ok (.aload_n 0, 1) := by decide +kernel
theorem dDr_copyFrom_103 : decode bDr_copyFrom 103 = .ok (.aload_n 1, 1) := by decide +kernel
theorem dDr_copyFrom_104 : decode bDr_copyFrom 104 = .ok (.getfield 61, 3) := by decide +kernel
theorem dDr_copyFrom_107 : decode bDr_copyFrom 107 = .ok (.putfield 61, 3) := by decide +kernel
theorem dDr_copyFrom_110 : decode bDr_copyFrom 110 = .ok (.aload_n 0, 1) := by decide +kernel
theorem dDr_copyFrom_111 : decode bDr_copyFrom 111 = .ok (.aload_n 1, 1) := by decide +kernel
theorem dDr_copyFrom_112 : decode bDr_copyFrom 112 = .ok (.getfield 64, 3) := by decide +kernel
theorem dDr_copyFrom_115 : decode bDr_copyFrom 115 = .ok (.putfield 64, 3) := by decide +kernel
theorem dDr_copyFrom_118 : decode bDr_copyFrom 118 = .ok (.aload_n 0, 1) := by decide +kernel
theorem dDr_copyFrom_119 : decode bDr_copyFrom 119 = .ok (.aload_n 1, 1) := by decide +kernel
theorem dDr_copyFrom_120 : decode bDr_copyFrom 120 = .ok (.getfield 67, 3) := by decide +kernel
theorem dDr_copyFrom_123 : decode bDr_copyFrom 123 = .ok (.putfield 67, 3) := by decide +kernel
theorem dDr_copyFrom_126 : decode bDr_copyFrom 126 = .ok (.aload_n 0, 1) := by decide +kernel
theorem dDr_copyFrom_127 : decode bDr_copyFrom 127 = .ok (.aload_n 1, 1) := by decide +kernel
theorem dDr_copyFrom_128 : decode bDr_copyFrom 128 = .ok (.getfield 70, 3) := by decide +kernel
theorem dDr_copyFrom_131 : decode bDr_copyFrom 131 = .ok (.putfield 70, 3) := by decide +kernel
theorem dDr_copyFrom_134 : decode bDr_copyFrom 134 = .ok (.aload_n 0, 1) := by decide +kernel
theorem dDr_copyFrom_135 : decode bDr_copyFrom 135 = .ok (.aload_n 1, 1) := by decide +kernel
theorem dDr_copyFrom_136 : decode bDr_copyFrom 136 = .ok (.getfield 73, 3) := by decide +kernel
theorem dDr_copyFrom_139 : decode bDr_copyFrom 139 = .ok (.putfield 73, 3) := by decide +kernel
theorem dDr_copyFrom_142 : decode bDr_copyFrom 142 = .ok (.return_, 1) := by decide +kernel
theorem dDr_runHour_0 : decode bDr_runHour 0 = .ok (.iload_n 3, 1) := by decide +kernel
theorem dDr_runHour_1 : decode bDr_runHour 1 = .ok (.ifCond .lt 11, 3) := by decide +kernel
theorem dDr_runHour_4 : decode bDr_runHour 4 = .ok (.iload_n 3, 1) := by decide +kernel
theorem dDr_runHour_5 : decode bDr_runHour 5 = .ok (.iconst 3, 1) := by decide +kernel
theorem dDr_runHour_6 : decode bDr_runHour 6 = .ok (.iadd, 1) := by decide +kernel
theorem dDr_runHour_7 : decode bDr_runHour 7 = .ok (.aload_n 2, 1) := by decide +kernel
theorem dDr_runHour_8 : decode bDr_runHour 8 = .ok (.arraylength, 1) := by decide +kernel
theorem dDr_runHour_9 : decode bDr_runHour 9 = .ok (.if_icmp .le 4, 3) := by decide +kernel
theorem dDr_runHour_12 : decode bDr_runHour 12 = .ok (.return_, 1) := by decide +kernel
theorem dDr_runHour_13 : decode bDr_runHour 13 = .ok (.aload_n 0, 1) := by decide +kernel
theorem dDr_runHour_14 : decode bDr_runHour 14 = .ok (.getfield 39, 3) := by decide +kernel
theorem dDr_runHour_17 : decode bDr_runHour 17 = .ok (.ifCond .ne 18, 3) := by decide +kernel
theorem dDr_runHour_20 : decode bDr_runHour 20 = .ok (.aload_n 0, 1) := by decide +kernel
theorem dDr_runHour_21 : decode bDr_runHour 21 = .ok (.aload_n 1, 1) := by decide +kernel
theorem dDr_runHour_22 : decode bDr_runHour 22 = .ok (.aload_n 2, 1) := by decide +kernel
theorem dDr_runHour_23 : decode bDr_runHour 23 = .ok (.iload_n 3, 1) := by decide +kernel
theorem dDr_runHour_24 : decode bDr_runHour 24 = .ok (.iconst 0, 1) := by decide +kernel
theorem dDr_runHour_25 : decode bDr_runHour 25 = .ok (.iadd, 1) := by decide +kernel
theorem dDr_runHour_26 : decode bDr_runHour 26 = .ok (.iaload, 1) := by decide +kernel
theorem dDr_runHour_27 : decode bDr_runHour 27 = .ok (.aload_n 2, 1) := by decide +kernel
theorem dDr_runHour_28 : decode bDr_runHour 28 = .ok (.iload_n 3, 1) := by decide +kernel
theorem dDr_runHour_29 : decode bDr_runHour 29 = .ok (.iconst 2, 1) := by decide +kernel
theorem dDr_runHour_30 : decode bDr_runHour 30 = .ok (.iadd, 1) := by decide +kernel
theorem dDr_runHour_31 : decode bDr_runHour 31 = .ok (.iaload, 1) := by decide +kernel
theorem dDr_runHour_32 : decode bDr_runHour 32 = .ok (.invokevirtual 109, 3) := by decide +kernel
theorem dDr_runHour_35 : decode bDr_runHour 35 = .ok (.aload_n 0, 1) := by decide +kernel
theorem dDr_runHour_36 : decode bDr_runHour 36 = .ok (.getfield 12, 3) := by decide +kernel
theorem dDr_runHour_39 : decode bDr_runHour 39 = .ok (.invokevirtual 113, 3) := by decide +kernel
theorem dDr_runHour_42 : decode bDr_runHour 42 = .ok (.aload_n 0, 1) := by decide +kernel
theorem dDr_runHour_43 : decode bDr_runHour 43 = .ok (.aload_n 0, 1) := by decide +kernel
theorem dDr_runHour_44 : decode bDr_runHour 44 = .ok (.getfield 12, 3) := by decide +kernel
theorem dDr_runHour_47 : decode bDr_runHour 47 = .ok (.getfield 95, 3) := by decide +kernel
theorem dDr_runHour_50 : decode bDr_runHour 50 = .ok (.invokestatic 116, 3) := by decide +kernel
theorem dDr_runHour_53 : decode bDr_runHour 53 = .ok (.putfield 46, 3) := by decide +kernel
theorem dDr_runHour_56 : decode bDr_runHour 56 = .ok (.aload_n 0, 1) := by decide +kernel
theorem dDr_runHour_57 : decode bDr_runHour 57 = .ok (.aload_n 0, 1) := by decide +kernel
theorem dDr_runHour_58 : decode bDr_runHour 58 = .ok (.getfield 46, 3) := by decide +kernel
theorem dDr_runHour_61 : decode bDr_runHour 61 = .ok (.aload_n 1, 1) := by decide +kernel
theorem dDr_runHour_62 : decode bDr_runHour 62 = .ok (.getfield 120, 3) := by decide +kernel
theorem dDr_runHour_65 : decode bDr_runHour 65 = .ok (.if_icmp .le 7, 3) := by decide +kernel
theorem dDr_runHour_68 : decode bDr_runHour 68 = .ok (.iconst 1, 1) := by decide +kernel
theorem dDr_runHour_69 : decode bDr_runHour 69 = .ok (.goto 4, 3) := by decide +kernel
theorem dDr_runHour_72 : decode bDr_runHour 72 = .ok (.iconst 0, 1) := by decide +kernel
theorem dDr_runHour_73 : decode bDr_runHour 73 = .ok (.putfield 39, 3) := by decide +kernel
theorem dDr_runHour_76 : decode bDr_runHour 76 = .ok (.aload_n 0, 1) := by decide +kernel
theorem dDr_runHour_77 : decode bDr_runHour 77 = .ok (.getfield 39, 3) := by decide +kernel
theorem dDr_runHour_80 : decode bDr_runHour 80 = .ok (.ifCond .eq 10, 3) := by decide +kernel
theorem dDr_runHour_83 : decode bDr_runHour 83 = .ok (.aload_n 0, 1) := by decide +kernel
theorem dDr_runHour_84 : decode bDr_runHour 84 = .ok (.invokevirtual 123, 3) := by decide +kernel
theorem dDr_runHour_87 : decode bDr_runHour 87 = .ok (.goto 63, 3) := by decide +kernel
theorem dDr_runHour_90 : decode bDr_runHour 90 = .ok (.aload_n 0, 1) := by decide +kernel
theorem dDr_runHour_91 : decode bDr_runHour 91 = .ok (.aload_n 0, 1) := by decide +kernel
theorem dDr_runHour_92 : decode bDr_runHour 92 = .ok (.aload_n 1, 1) := by decide +kernel
theorem dDr_runHour_93 : decode bDr_runHour 93 = .ok (.aload_n 2, 1) := by decide +kernel
theorem dDr_runHour_94 : decode bDr_runHour 94 = .ok (.iload_n 3, 1) := by decide +kernel
theorem dDr_runHour_95 : decode bDr_runHour 95 = .ok (.iconst 2, 1) := by decide +kernel
theorem dDr_runHour_96 : decode bDr_runHour 96 = .ok (.iadd, 1) := by decide +kernel
theorem dDr_runHour_97 : decode bDr_runHour 97 = .ok (.iaload, 1) := by decide +kernel
theorem dDr_runHour_98 : decode bDr_runHour 98 = .ok (.invokevirtual 126, 3) := by decide +kernel
theorem dDr_runHour_101 : decode bDr_runHour 101 = .ok (.putfield 49, 3) := by decide +kernel
theorem dDr_runHour_104 : decode bDr_runHour 104 = .ok (.aload_n 0, 1) := by decide +kernel
theorem dDr_runHour_105 : decode bDr_runHour 105 = .ok (.aload_n 0, 1) := by decide +kernel
theorem dDr_runHour_106 : decode bDr_runHour 106 = .ok (.getfield 46, 3) := by decide +kernel
theorem dDr_runHour_109 : decode bDr_runHour 109 = .ok (.aload_n 0, 1) := by decide +kernel
theorem dDr_runHour_110 : decode bDr_runHour 110 = .ok (.getfield 49, 3) := by decide +kernel
theorem dDr_runHour_113 : decode bDr_runHour 113 = .ok (.bipush 100, 2) := by decide +kernel
theorem dDr_runHour_115 : decode bDr_runHour 115 = .ok (.invokestatic 88, 3) := by decide +kernel
theorem dDr_runHour_118 : decode bDr_runHour 118 = .ok (.putfield 52, 3) := by decide +kernel
theorem dDr_runHour_121 : decode bDr_runHour 121 = .ok (.aload_n 0, 1) := by decide +kernel
theorem dDr_runHour_122 : decode bDr_runHour 122 = .ok (.getfield 12, 3) := by decide +kernel
theorem dDr_runHour_125 : decode bDr_runHour 125 = .ok (.aload_n 1, 1) := by decide +kernel
theorem dDr_runHour_126 : decode bDr_runHour 126 = .ok (.aload_n 0, 1) := by decide +kernel
theorem dDr_runHour_127 : decode bDr_runHour 127 = .ok (.getfield 49, 3) := by decide +kernel
theorem dDr_runHour_130 : decode bDr_runHour 130 = .ok (.invokevirtual 130, 3) := by decide +kernel
theorem dDr_runHour_133 : decode bDr_runHour 133 = .ok (.aload_n 0, 1) := by decide +kernel
theorem dDr_runHour_134 : decode bDr_runHour 134 = .ok (.getfield 12, 3) := by decide +kernel
theorem dDr_runHour_137 : decode bDr_runHour 137 = .ok (.aload_n 1, 1) := by decide +kernel
theorem dDr_runHour_138 : decode bDr_runHour 138 = .ok (.aload_n 2, 1) := by decide +kernel
theorem dDr_runHour_139 : decode bDr_runHour 139 = .ok (.iload_n 3, 1) := by decide +kernel
theorem dDr_runHour_140 : decode bDr_runHour 140 = .ok (.iconst 1, 1) := by decide +kernel
theorem dDr_runHour_141 : decode bDr_runHour 141 = .ok (.iadd, 1) := by decide +kernel
theorem dDr_runHour_142 : decode bDr_runHour 142 = .ok (.iaload, 1) := by decide +kernel
theorem dDr_runHour_143 : decode bDr_runHour 143 = .ok (.aload_n 0, 1) := by decide +kernel
theorem dDr_runHour_144 : decode bDr_runHour 144 = .ok (.getfield 36, 3) := by decide +kernel
theorem dDr_runHour_147 : decode bDr_runHour 147 = .ok (.invokevirtual 134, 3) := by decide +kernel
theorem dDr_runHour_150 : decode bDr_runHour 150 = .ok (.aload_n 0, 1) := by decide +kernel
theorem dDr_runHour_151 : decode bDr_runHour 151 = .ok (.aload_n 1, 1) := by decide +kernel
theorem dDr_runHour_152 : decode bDr_runHour 152 = .ok (.invokevirtual 137, 3) := by decide +kernel
theorem dDr_runHour_155 : decode bDr_runHour 155 = .ok (.aload_n 0, 1) := by decide +kernel
theorem dDr_runHour_156 : decode bDr_runHour 156 = .ok (.aload_n 1, 1) := by decide +kernel
theorem dDr_runHour_157 : decode bDr_runHour 157 = .ok (.invokevirtual 141, 3) := by decide +kernel
theorem dDr_runHour_160 : decode bDr_runHour 160 = .ok (.aload_n 0, 1) := by decide +kernel
theorem dDr_runHour_161 : decode bDr_runHour 161 = .ok (.aload_n 1, 1) := by decide +kernel
theorem dDr_runHour_162 : decode bDr_runHour 162 = .ok (.getfield 144, 3) := by decide +kernel
theorem dDr_runHour_165 : decode bDr_runHour 165 = .ok (.aload_n 1, 1) := by decide +kernel
theorem dDr_runHour_166 : decode bDr_runHour 166 = .ok (.getfield 144, 3) := by decide +kernel
theorem dDr_runHour_169 : decode bDr_runHour 169 = .ok (.aload_n 0, 1) := by decide +kernel
theorem dDr_runHour_170 : decode bDr_runHour 170 = .ok (.getfield 46, 3) := by decide +kernel
theorem dDr_runHour_173 : decode bDr_runHour 173 = .ok (.aload_n 1, 1) := by decide +kernel
theorem dDr_runHour_174 : decode bDr_runHour 174 = .ok (.getfield 120, 3) := by decide +kernel
theorem dDr_runHour_177 : decode bDr_runHour 177 = .ok (.invokestatic 88, 3) := by decide +kernel
theorem dDr_runHour_180 : decode bDr_runHour 180 = .ok (.isub, 1) := by decide +kernel
theorem dDr_runHour_181 : decode bDr_runHour 181 = .ok (.iconst 0, 1) := by decide +kernel
theorem dDr_runHour_182 : decode bDr_runHour 182 = .ok (.invokestatic 147, 3) := by decide +kernel
theorem dDr_runHour_185 : decode bDr_runHour 185 = .ok (.putfield 55, 3) := by decide +kernel
theorem dDr_runHour_188 : decode bDr_runHour 188 = .ok (.aload_n 0, 1) := by decide +kernel
theorem dDr_runHour_189 : decode bDr_runHour 189 = .ok (.dup, 1) := by decide +kernel
theorem dDr_runHour_190 : decode bDr_runHour 190 = .ok (.getfield 70, 3) := by decide +kernel
theorem dDr_runHour_193 : decode bDr_runHour 193 = .ok (.aload_n 0, 1) := by decide +kernel
theorem dDr_runHour_194 : decode bDr_runHour 194 = .ok (.getfield 52, 3) := by decide +kernel
theorem dDr_runHour_197 : decode bDr_runHour 197 = .ok (.aload_n 1, 1) := by decide +kernel
theorem dDr_runHour_198 : decode bDr_runHour 198 = .ok (.aload_n 0, 1) := by decide +kernel
theorem dDr_runHour_199 : decode bDr_runHour 199 = .ok (.getfield 43, 3) := by decide +kernel
theorem dDr_runHour_202 : decode bDr_runHour 202 = .ok (.invokevirtual 152, 3) := by decide +kernel
theorem dDr_runHour_205 : decode bDr_runHour 205 = .ok (.imul, 1) := by decide +kernel
theorem dDr_runHour_206 : decode bDr_runHour 206 = .ok (.iadd, 1) := by decide +kernel
theorem dDr_runHour_207 : decode bDr_runHour 207 = .ok (.putfield 70, 3) := by decide +kernel
theorem dDr_runHour_210 : decode bDr_runHour 210 = .ok (.aload_n 0, 1) := by decide +kernel
theorem dDr_runHour_211 : decode bDr_runHour 211 = .ok (.dup, 1) := by decide +kernel
theorem dDr_runHour_212 : decode bDr_runHour 212 = .ok (.getfield 33, 3) := by decide +kernel
theorem dDr_runHour_215 : decode bDr_runHour 215 = .ok (.iconst 1, 1) := by decide +kernel
theorem dDr_runHour_216 : decode bDr_runHour 216 = .ok (.iadd, 1) := by decide +kernel
theorem dDr_runHour_217 : decode bDr_runHour 217 = .ok (.putfield 33, 3) := by decide +kernel
theorem dDr_runHour_220 : decode bDr_runHour 220 = .ok (.aload_n 0, 1) := by decide +kernel
theorem dDr_runHour_221 : decode bDr_runHour 221 = .ok (.dup, 1) := by decide +kernel
theorem dDr_runHour_222 : decode bDr_runHour 222 = .ok (.getfield 43, 3) := by decide +kernel
theorem dDr_runHour_225 : decode bDr_runHour 225 = .ok (.iconst 1, 1) := by decide +kernel
theorem dDr_runHour_226 : decode bDr_runHour 226 = .ok (.iadd, 1) := by decide +kernel
theorem dDr_runHour_227 : decode bDr_runHour 227 = .ok (.putfield 43, 3) := by decide +kernel
theorem dDr_runHour_230 : decode bDr_runHour 230 = .ok (.return_, 1) := by decide +kernel
theorem dDr_wentWell_0 : decode bDr_wentWell 0 = .ok (.aload_n 0, 1) := by decide +kernel
theorem dDr_wentWell_1 : decode bDr_wentWell 1 = .ok (.getfield 39, 3) := by decide +kernel
theorem dDr_wentWell_4 : decode bDr_wentWell 4 = .ok (.ifCond .ne 14, 3) := by decide +kernel
theorem dDr_wentWell_7 : decode bDr_wentWell 7 = .ok (.aload_n 0, 1) := by decide +kernel
theorem dDr_wentWell_8 : decode bDr_wentWell 8 = .ok (.getfield 58, 3) := by decide +kernel
theorem dDr_wentWell_11 : decode bDr_wentWell 11 = .ok (.ifCond .ne 7, 3) := by decide +kernel
theorem dDr_wentWell_14 : decode bDr_wentWell 14 = .ok (.iconst 1, 1) := by decide +kernel
theorem dDr_wentWell_15 : decode bDr_wentWell 15 = .ok (.goto 4, 3) := by decide +kernel
theorem dDr_wentWell_18 : decode bDr_wentWell 18 = .ok (.iconst 0, 1) := by decide +kernel
theorem dDr_wentWell_19 : decode bDr_wentWell 19 = .ok (.ireturn, 1) := by decide +kernel
theorem dDr_takeOre_0 : decode bDr_takeOre 0 = .ok (.iconst 0, 1) := by decide +kernel
theorem dDr_takeOre_1 : decode bDr_takeOre 1 = .ok (.istore 4, 2) := by decide +kernel
theorem dDr_takeOre_3 : decode bDr_takeOre 3 = .ok (.iload 4, 2) := by decide +kernel
theorem dDr_takeOre_5 : decode bDr_takeOre 5 = .ok (.iconst 5, 1) := by decide +kernel
theorem dDr_takeOre_6 : decode bDr_takeOre 6 = .ok (.if_icmp .ge 46, 3) := by decide +kernel
theorem dDr_takeOre_9 : decode bDr_takeOre 9 = .ok (.iload_n 2, 1) := by decide +kernel
theorem dDr_takeOre_10 : decode bDr_takeOre 10 = .ok (.aload_n 1, 1) := by decide +kernel
theorem dDr_takeOre_11 : decode bDr_takeOre 11 = .ok (.iload_n 3, 1) := by decide +kernel
theorem dDr_takeOre_12 : decode bDr_takeOre 12 = .ok (.iload 4, 2) := by decide +kernel
theorem dDr_takeOre_14 : decode bDr_takeOre 14 = .ok (.invokevirtual 98, 3) := by decide +kernel
theorem dDr_takeOre_17 : decode bDr_takeOre 17 = .ok (.imul, 1) := by decide +kernel
theorem dDr_takeOre_18 : decode bDr_takeOre 18 = .ok (.istore 5, 2) := by decide +kernel
theorem dDr_takeOre_20 : decode bDr_takeOre 20 = .ok (.aload_n 0, 1) := by decide +kernel
theorem dDr_takeOre_21 : decode bDr_takeOre 21 = .ok (.getfield 12, 3) := by decide +kernel
theorem dDr_takeOre_24 : decode bDr_takeOre 24 = .ok (.getfield 95, 3) := by decide +kernel
theorem dDr_takeOre_27 : decode bDr_takeOre 27 = .ok (.iload 4, 2) := by decide +kernel
theorem dDr_takeOre_29 : decode bDr_takeOre 29 = .ok (.dup2, 1) := by decide +kernel
theorem dDr_takeOre_30 : decode bDr_takeOre 30 = .ok (.iaload, 1) := by decide +kernel
theorem dDr_takeOre_31 : decode bDr_takeOre 31 = .ok (.iload 5, 2) := by decide +kernel
theorem dDr_takeOre_33 : decode bDr_takeOre 33 = .ok (.iadd, 1) := by decide +kernel
theorem dDr_takeOre_34 : decode bDr_takeOre 34 = .ok (.iastore, 1) := by decide +kernel
theorem dDr_takeOre_35 : decode bDr_takeOre 35 = .ok (.aload_n 0, 1) := by decide +kernel
theorem dDr_takeOre_36 : decode bDr_takeOre 36 = .ok (.dup, 1) := by decide +kernel
theorem dDr_takeOre_37 : decode bDr_takeOre 37 = .ok (.getfield 73, 3) := by decide +kernel
theorem dDr_takeOre_40 : decode bDr_takeOre 40 = .ok (.iload 5, 2) := by decide +kernel
theorem dDr_takeOre_42 : decode bDr_takeOre 42 = .ok (.iadd, 1) := by decide +kernel
theorem dDr_takeOre_43 : decode bDr_takeOre 43 = .ok (.putfield 73, 3) := by decide +kernel
theorem dDr_takeOre_46 : decode bDr_takeOre 46 = .ok (.iinc 4 1, 3) := by decide +kernel
theorem dDr_takeOre_49 : decode bDr_takeOre 49 = .ok (.goto (-46), 3) := by decide +kernel
theorem dDr_takeOre_52 : decode bDr_takeOre 52 = .ok (.return_, 1) := by decide +kernel
theorem dDr_standStill_0 : decode bDr_standStill 0 = .ok (.aload_n 0, 1) := by decide +kernel
theorem dDr_standStill_1 : decode bDr_standStill 1 = .ok (.dup, 1) := by decide +kernel
theorem dDr_standStill_2 : decode bDr_standStill 2 = .ok (.getfield 64, 3) := by decide +kernel
theorem dDr_standStill_5 : decode bDr_standStill 5 = .ok (.aload_n 0, 1) := by decide +kernel
theorem dDr_standStill_6 : decode bDr_standStill 6 = .ok (.getfield 12, 3) := by decide +kernel
theorem dDr_standStill_9 : decode bDr_standStill 9 = .ok (.invokevirtual 156, 3) := by decide +kernel
theorem dDr_standStill_12 : decode bDr_standStill 12 = .ok (.iadd, 1) := by decide +kernel
theorem dDr_standStill_13 : decode bDr_standStill 13 = .ok (.putfield 64, 3) := by decide +kernel
theorem dDr_standStill_16 : decode bDr_standStill 16 = .ok (.aload_n 0, 1) := by decide +kernel
theorem dDr_standStill_17 : decode bDr_standStill 17 = .ok (.getfield 12, 3) := by decide +kernel
theorem dDr_standStill_20 : decode bDr_standStill 20 = .ok (.getfield 160, 3) := by decide +kernel
theorem dDr_standStill_23 : decode bDr_standStill 23 = .ok (.invokestatic 25, 3) := by decide +kernel
theorem dDr_standStill_26 : decode bDr_standStill 26 = .ok (.aload_n 0, 1) := by decide +kernel
theorem dDr_standStill_27 : decode bDr_standStill 27 = .ok (.iconst 0, 1) := by decide +kernel
theorem dDr_standStill_28 : decode bDr_standStill 28 = .ok (.putfield 49, 3) := by decide +kernel
theorem dDr_standStill_31 : decode bDr_standStill 31 = .ok (.aload_n 0, 1) := by decide +kernel
theorem dDr_standStill_32 : decode bDr_standStill 32 = .ok (.iconst 0, 1) := by decide +kernel
theorem dDr_standStill_33 : decode bDr_standStill 33 = .ok (.putfield 52, 3) := by decide +kernel
theorem dDr_standStill_36 : decode bDr_standStill 36 = .ok (.return_, 1) := by decide +kernel
theorem dDr_effectOf_0 : decode bDr_effectOf 0 = .ok (.bipush 100, 2) := by decide +kernel
theorem dDr_effectOf_2 : decode bDr_effectOf 2 = .ok (.aload_n 0, 1) := by decide +kernel
theorem dDr_effectOf_3 : decode bDr_effectOf 3 = .ok (.getfield 46, 3) := by decide +kernel
theorem dDr_effectOf_6 : decode bDr_effectOf 6 = .ok (.aload_n 1, 1) := by decide +kernel
theorem dDr_effectOf_7 : decode bDr_effectOf 7 = .ok (.getfield 120, 3) := by decide +kernel
theorem dDr_effectOf_10 : decode bDr_effectOf 10 = .ok (.invokestatic 88, 3) := by decide +kernel
theorem dDr_effectOf_13 : decode bDr_effectOf 13 = .ok (.bipush 50, 2) := by decide +kernel
theorem dDr_effectOf_15 : decode bDr_effectOf 15 = .ok (.isub, 1) := by decide +kernel
theorem dDr_effectOf_16 : decode bDr_effectOf 16 = .ok (.istore_n 3, 1) := by decide +kernel
theorem dDr_effectOf_17 : decode bDr_effectOf 17 = .ok (.bipush 100, 2) := by decide +kernel
theorem dDr_effectOf_19 : decode bDr_effectOf 19 = .ok (.iload_n 3, 1) := by decide +kernel
theorem dDr_effectOf_20 : decode bDr_effectOf 20 = .ok (.invokestatic 163, 3) := by decide +kernel
theorem dDr_effectOf_23 : decode bDr_effectOf 23 = .ok (.isub, 1) := by decide +kernel
theorem dDr_effectOf_24 : decode bDr_effectOf 24 = .ok (.istore 4, 2) := by decide +kernel
theorem dDr_effectOf_26 : decode bDr_effectOf 26 = .ok (.aload_n 1, 1) := by decide +kernel
theorem dDr_effectOf_27 : decode bDr_effectOf 27 = .ok (.getfield 83, 3) := by decide +kernel
theorem dDr_effectOf_30 : decode bDr_effectOf 30 = .ok (.aload_n 0, 1) := by decide +kernel
theorem dDr_effectOf_31 : decode bDr_effectOf 31 = .ok (.getfield 33, 3) := by decide +kernel
theorem dDr_effectOf_34 : decode bDr_effectOf 34 = .ok (.isub, 1) := by decide +kernel
theorem dDr_effectOf_35 : decode bDr_effectOf 35 = .ok (.aload_n 1, 1) := by decide +kernel
theorem dDr_effectOf_36 : decode bDr_effectOf 36 = .ok (.getfield 83, 3) := by decide +kernel
theorem dDr_effectOf_39 : decode bDr_effectOf 39 = .ok (.iconst 2, 1) := by decide +kernel
theorem dDr_effectOf_40 : decode bDr_effectOf 40 = .ok (.idiv, 1) := by decide +kernel
theorem dDr_effectOf_41 : decode bDr_effectOf 41 = .ok (.invokestatic 147, 3) := by decide +kernel
theorem dDr_effectOf_44 : decode bDr_effectOf 44 = .ok (.istore 5, 2) := by decide +kernel
theorem dDr_effectOf_46 : decode bDr_effectOf 46 = .ok (.iload 4, 2) := by decide +kernel
theorem dDr_effectOf_48 : decode bDr_effectOf 48 = .ok (.iload 5, 2) := by decide +kernel
theorem dDr_effectOf_50 : decode bDr_effectOf 50 = .ok (.aload_n 1, 1) := by decide +kernel
theorem dDr_effectOf_51 : decode bDr_effectOf 51 = .ok (.getfield 83, 3) := by decide +kernel
theorem dDr_effectOf_54 : decode bDr_effectOf 54 = .ok (.invokestatic 88, 3) := by decide +kernel
theorem dDr_effectOf_57 : decode bDr_effectOf 57 = .ok (.istore 6, 2) := by decide +kernel
theorem dDr_effectOf_59 : decode bDr_effectOf 59 = .ok (.iload 6, 2) := by decide +kernel
theorem dDr_effectOf_61 : decode bDr_effectOf 61 = .ok (.bipush 10, 2) := by decide +kernel
theorem dDr_effectOf_63 : decode bDr_effectOf 63 = .ok (.bipush 9, 2) := by decide +kernel
theorem dDr_effectOf_65 : decode bDr_effectOf 65 = .ok (.aload_n 1, 1) := by decide +kernel
theorem dDr_effectOf_66 : decode bDr_effectOf 66 = .ok (.iload_n 2, 1) := by decide +kernel
theorem dDr_effectOf_67 : decode bDr_effectOf 67 = .ok (.invokevirtual 166, 3) := by decide +kernel
theorem dDr_effectOf_70 : decode bDr_effectOf 70 = .ok (.iadd, 1) := by decide +kernel
theorem dDr_effectOf_71 : decode bDr_effectOf 71 = .ok (.invokestatic 88, 3) := by decide +kernel
theorem dDr_effectOf_74 : decode bDr_effectOf 74 = .ok (.ireturn, 1) := by decide +kernel
theorem dDr_fillBin_0 : decode bDr_fillBin 0 = .ok (.iconst 0, 1) := by decide +kernel
theorem dDr_fillBin_1 : decode bDr_fillBin 1 = .ok (.istore_n 2, 1) := by decide +kernel
theorem dDr_fillBin_2 : decode bDr_fillBin 2 = .ok (.iload_n 2, 1) := by decide +kernel
theorem dDr_fillBin_3 : decode bDr_fillBin 3 = .ok (.iconst 5, 1) := by decide +kernel
theorem dDr_fillBin_4 : decode bDr_fillBin 4 = .ok (.if_icmp .ge 45, 3) := by decide +kernel
theorem dDr_fillBin_7 : decode bDr_fillBin 7 = .ok (.aload_n 0, 1) := by decide +kernel
theorem dDr_fillBin_8 : decode bDr_fillBin 8 = .ok (.dup, 1) := by decide +kernel
theorem dDr_fillBin_9 : decode bDr_fillBin 9 = .ok (.getfield 29, 3) := by decide +kernel
theorem dDr_fillBin_12 : decode bDr_fillBin 12 = .ok (.aload_n 0, 1) := by decide +kernel
theorem dDr_fillBin_13 : decode bDr_fillBin 13 = .ok (.getfield 12, 3) := by decide +kernel
theorem dDr_fillBin_16 : decode bDr_fillBin 16 = .ok (.getfield 160, 3) := by decide +kernel
theorem dDr_fillBin_19 : decode bDr_fillBin 19 = .ok (.iload_n 2, 1) := by decide +kernel
theorem dDr_fillBin_20 : decode bDr_fillBin 20 = .ok (.iaload, 1) := by decide +kernel
theorem dDr_fillBin_21 : decode bDr_fillBin 21 = .ok (.iadd, 1) := by decide +kernel
theorem dDr_fillBin_22 : decode bDr_fillBin 22 = .ok (.putfield 29, 3) := by decide +kernel
theorem dDr_fillBin_25 : decode bDr_fillBin 25 = .ok (.aload_n 0, 1) := by decide +kernel
theorem dDr_fillBin_26 : decode bDr_fillBin 26 = .ok (.getfield 18, 3) := by decide +kernel
theorem dDr_fillBin_29 : decode bDr_fillBin 29 = .ok (.iload_n 2, 1) := by decide +kernel
theorem dDr_fillBin_30 : decode bDr_fillBin 30 = .ok (.dup2, 1) := by decide +kernel
theorem dDr_fillBin_31 : decode bDr_fillBin 31 = .ok (.iaload, 1) := by decide +kernel
theorem dDr_fillBin_32 : decode bDr_fillBin 32 = .ok (.aload_n 0, 1) := by decide +kernel
theorem dDr_fillBin_33 : decode bDr_fillBin 33 = .ok (.getfield 12, 3) := by decide +kernel
theorem dDr_fillBin_36 : decode bDr_fillBin 36 = .ok (.getfield 160, 3) := by decide +kernel
theorem dDr_fillBin_39 : decode bDr_fillBin 39 = .ok (.iload_n 2, 1) := by decide +kernel
theorem dDr_fillBin_40 : decode bDr_fillBin 40 = .ok (.iaload, 1) := by decide +kernel
theorem dDr_fillBin_41 : decode bDr_fillBin 41 = .ok (.iadd, 1) := by decide +kernel
theorem dDr_fillBin_42 : decode bDr_fillBin 42 = .ok (.iastore, 1) := by decide +kernel
theorem dDr_fillBin_43 : decode bDr_fillBin 43 = .ok (.iinc 2 1, 3) := by decide +kernel
theorem dDr_fillBin_46 : decode bDr_fillBin 46 = .ok (.goto (-44), 3) := by decide +kernel
theorem dDr_fillBin_49 : decode bDr_fillBin 49 = .ok (.aload_n 0, 1) := by decide +kernel
theorem dDr_fillBin_50 : decode bDr_fillBin 50 = .ok (.getfield 29, 3) := by decide +kernel
theorem dDr_fillBin_53 : decode bDr_fillBin 53 = .ok (.aload_n 1, 1) := by decide +kernel
theorem dDr_fillBin_54 : decode bDr_fillBin 54 = .ok (.getfield 92, 3) := by decide +kernel
theorem dDr_fillBin_57 : decode bDr_fillBin 57 = .ok (.if_icmp .le 29, 3) := by decide +kernel
theorem dDr_fillBin_60 : decode bDr_fillBin 60 = .ok (.aload_n 0, 1) := by decide +kernel
theorem dDr_fillBin_61 : decode bDr_fillBin 61 = .ok (.dup, 1) := by decide +kernel
theorem dDr_fillBin_62 : decode bDr_fillBin 62 = .ok (.getfield 64, 3) := by decide +kernel
theorem dDr_fillBin_65 : decode bDr_fillBin 65 = .ok (.aload_n 0, 1) := by decide +kernel
theorem dDr_fillBin_66 : decode bDr_fillBin 66 = .ok (.getfield 29, 3) := by decide +kernel
theorem dDr_fillBin_69 : decode bDr_fillBin 69 = .ok (.aload_n 1, 1) := by decide +kernel
theorem dDr_fillBin_70 : decode bDr_fillBin 70 = .ok (.getfield 92, 3) := by decide +kernel
theorem dDr_fillBin_73 : decode bDr_fillBin 73 = .ok (.isub, 1) := by decide +kernel
theorem dDr_fillBin_74 : decode bDr_fillBin 74 = .ok (.iadd, 1) := by decide +kernel
theorem dDr_fillBin_75 : decode bDr_fillBin 75 = .ok (.putfield 64, 3) := by decide +kernel
theorem dDr_fillBin_78 : decode bDr_fillBin 78 = .ok (.aload_n 0, 1) := by decide +kernel
theorem dDr_fillBin_79 : decode bDr_fillBin 79 = .ok (.aload_n 1, 1) := by decide +kernel
theorem dDr_fillBin_80 : decode bDr_fillBin 80 = .ok (.getfield 92, 3) := by decide +kernel
theorem dDr_fillBin_83 : decode bDr_fillBin 83 = .ok (.putfield 29, 3) := by decide +kernel
theorem dDr_fillBin_86 : decode bDr_fillBin 86 = .ok (.return_, 1) := by decide +kernel
theorem dDr_drawFromBin_0 : decode bDr_drawFromBin 0 = .ok (.aload_n 0, 1) := by decide +kernel
theorem dDr_drawFromBin_1 : decode bDr_drawFromBin 1 = .ok (.getfield 29, 3) := by decide +kernel
theorem dDr_drawFromBin_4 : decode bDr_drawFromBin 4 = .ok (.aload_n 1, 1) := by decide +kernel
theorem dDr_drawFromBin_5 : decode bDr_drawFromBin 5 = .ok (.getfield 169, 3) := by decide +kernel
theorem dDr_drawFromBin_8 : decode bDr_drawFromBin 8 = .ok (.invokestatic 172, 3) := by decide +kernel
theorem dDr_drawFromBin_11 : decode bDr_drawFromBin 11 = .ok (.istore_n 2, 1) := by decide +kernel
theorem dDr_drawFromBin_12 : decode bDr_drawFromBin 12 = .ok (.aload_n 0, 1) := by decide +kernel
theorem dDr_drawFromBin_13 : decode bDr_drawFromBin 13 = .ok (.dup, 1) := by decide +kernel
theorem dDr_drawFromBin_14 : decode bDr_drawFromBin 14 = .ok (.getfield 29, 3) := by decide +kernel
theorem dDr_drawFromBin_17 : decode bDr_drawFromBin 17 = .ok (.iload_n 2, 1) := by decide +kernel
theorem dDr_drawFromBin_18 : decode bDr_drawFromBin 18 = .ok (.isub, 1) := by decide +kernel
theorem dDr_drawFromBin_19 : decode bDr_drawFromBin 19 = .ok (.putfield 29, 3) := by decide +kernel
theorem dDr_drawFromBin_22 : decode bDr_drawFromBin 22 = .ok (.aload_n 0, 1) := by decide +kernel
theorem dDr_drawFromBin_23 : decode bDr_drawFromBin 23 = .ok (.dup, 1) := by decide +kernel
theorem dDr_drawFromBin_24 : decode bDr_drawFromBin 24 = .ok (.getfield 67, 3) := by decide +kernel
theorem dDr_drawFromBin_27 : decode bDr_drawFromBin 27 = .ok (.iload_n 2, 1) := by decide +kernel
theorem dDr_drawFromBin_28 : decode bDr_drawFromBin 28 = .ok (.iadd, 1) := by decide +kernel
theorem dDr_drawFromBin_29 : decode bDr_drawFromBin 29 = .ok (.putfield 67, 3) := by decide +kernel
theorem dDr_drawFromBin_32 : decode bDr_drawFromBin 32 = .ok (.aload_n 0, 1) := by decide +kernel
theorem dDr_drawFromBin_33 : decode bDr_drawFromBin 33 = .ok (.aload_n 1, 1) := by decide +kernel
theorem dDr_drawFromBin_34 : decode bDr_drawFromBin 34 = .ok (.getfield 169, 3) := by decide +kernel
theorem dDr_drawFromBin_37 : decode bDr_drawFromBin 37 = .ok (.iload_n 2, 1) := by decide +kernel
theorem dDr_drawFromBin_38 : decode bDr_drawFromBin 38 = .ok (.isub, 1) := by decide +kernel
theorem dDr_drawFromBin_39 : decode bDr_drawFromBin 39 = .ok (.putfield 58, 3) := by decide +kernel
theorem dDr_drawFromBin_42 : decode bDr_drawFromBin 42 = .ok (.aload_n 0, 1) := by decide +kernel
theorem dDr_drawFromBin_43 : decode bDr_drawFromBin 43 = .ok (.dup, 1) := by decide +kernel
theorem dDr_drawFromBin_44 : decode bDr_drawFromBin 44 = .ok (.getfield 61, 3) := by decide +kernel
theorem dDr_drawFromBin_47 : decode bDr_drawFromBin 47 = .ok (.aload_n 0, 1) := by decide +kernel
theorem dDr_drawFromBin_48 : decode bDr_drawFromBin 48 = .ok (.getfield 58, 3) := by decide +kernel
theorem dDr_drawFromBin_51 : decode bDr_drawFromBin 51 = .ok (.iadd, 1) := by decide +kernel
theorem dDr_drawFromBin_52 : decode bDr_drawFromBin 52 = .ok (.putfield 61, 3) := by decide +kernel
theorem dDr_drawFromBin_55 : decode bDr_drawFromBin 55 = .ok (.return_, 1) := by decide +kernel
theorem dGu_init_0 : decode bGu_init 0 = .ok (.aload_n 0, 1) := by decide +kernel
theorem dGu_init_1 : decode bGu_init 1 = .ok (.invokespecial 5, 3) := by decide +kernel
theorem dGu_init_4 : decode bGu_init 4 = .ok (.aload_n 0, 1) := by decide +kernel
theorem dGu_init_5 : decode bGu_init 5 = .ok (.sipush 8400, 3) := by decide +kernel
theorem dGu_init_8 : decode bGu_init 8 = .ok (.newarray .int, 2) := by decide +kernel
theorem dGu_init_10 : decode bGu_init 10 = .ok (.putfield 11, 3) := by decide +kernel
theorem dGu_init_13 : decode bGu_init 13 = .ok (.aload_n 0, 1) := by decide +kernel
theorem dGu_init_14 : decode bGu_init 14 = .ok (.bipush 100, 2) := by decide +kernel
theorem dGu_init_16 : decode bGu_init 16 = .ok (.newarray .boolean, 2) := by decide +kernel
theorem dGu_init_18 : decode bGu_init 18 = .ok (.putfield 15, 3) := by decide +kernel
theorem dGu_init_21 : decode bGu_init 21 = .ok (.aload_n 0, 1) := by decide +kernel
theorem dGu_init_22 : decode bGu_init 22 = .ok (.new 19, 3) := by decide +kernel
theorem dGu_init_25 : decode bGu_init 25 = .ok (.dup, 1) := by decide +kernel
theorem dGu_init_26 : decode bGu_init 26 = .ok (.invokespecial 21, 3) := by decide +kernel
theorem dGu_init_29 : decode bGu_init 29 = .ok (.putfield 22, 3) := by decide +kernel
theorem dGu_init_32 : decode bGu_init 32 = .ok (.return_, 1) := by decide +kernel
theorem dGu_makeStale_0 : decode bGu_makeStale 0 = .ok (.iconst 0, 1) := by decide +kernel
theorem dGu_makeStale_1 : decode bGu_makeStale 1 = .ok (.istore_n 1, 1) := by decide +kernel
theorem dGu_makeStale_2 : decode bGu_makeStale 2 = .ok (.iload_n 1, 1) := by decide +kernel
theorem dGu_makeStale_3 : decode bGu_makeStale 3 = .ok (.bipush 100, 2) := by decide +kernel
theorem dGu_makeStale_5 : decode bGu_makeStale 5 = .ok (.if_icmp .ge 16, 3) := by decide +kernel
theorem dGu_makeStale_8 : decode bGu_makeStale 8 = .ok (.aload_n 0, 1) := by decide +kernel
theorem dGu_makeStale_9 : decode bGu_makeStale 9 = .ok (.getfield 15, 3) := by decide +kernel
theorem dGu_makeStale_12 : decode bGu_makeStale 12 = .ok (.iload_n 1, 1) := by decide +kernel
theorem dGu_makeStale_13 : decode bGu_makeStale 13 = .ok (.iconst 0, 1) := by decide +kernel
theorem dGu_makeStale_14 : decode bGu_makeStale 14 = .ok (.bastore, 1) := by decide +kernel
theorem dGu_makeStale_15 : decode bGu_makeStale 15 = .ok (.iinc 1 1, 3) := by decide +kernel
theorem dGu_makeStale_18 : decode bGu_makeStale 18 = .ok (.goto (-16), 3) := by decide +kernel
theorem dGu_makeStale_21 : decode bGu_makeStale 21 = .ok (.return_, 1) := by decide +kernel
theorem dGu_tellAll_0 : decode bGu_tellAll 0 = .ok (.iconst 0, 1) := by decide +kernel
theorem dGu_tellAll_1 : decode bGu_tellAll 1 = .ok (.istore_n 3, 1) := by decide +kernel
theorem dGu_tellAll_2 : decode bGu_tellAll 2 = .ok (.iload_n 3, 1) := by decide +kernel
theorem dGu_tellAll_3 : decode bGu_tellAll 3 = .ok (.bipush 100, 2) := by decide +kernel
theorem dGu_tellAll_5 : decode bGu_tellAll 5 = .ok (.if_icmp .ge 16, 3) := by decide +kernel
theorem dGu_tellAll_8 : decode bGu_tellAll 8 = .ok (.aload_n 0, 1) := by decide +kernel
theorem dGu_tellAll_9 : decode bGu_tellAll 9 = .ok (.aload_n 1, 1) := by decide +kernel
theorem dGu_tellAll_10 : decode bGu_tellAll 10 = .ok (.aload_n 2, 1) := by decide +kernel
theorem dGu_tellAll_11 : decode bGu_tellAll 11 = .ok (.iload_n 3, 1) := by decide +kernel
theorem dGu_tellAll_12 : decode bGu_tellAll 12 = .ok (.invokevirtual 26, 3) := by decide +kernel
theorem dGu_tellAll_15 : decode bGu_tellAll 15 = .ok (.iinc 3 1, 3) := by decide +kernel
theorem dGu_tellAll_18 : decode bGu_tellAll 18 = .ok (.goto (-16), 3) := by decide +kernel
theorem dGu_tellAll_21 : decode bGu_tellAll 21 = .ok (.return_, 1) := by decide +kernel
theorem dGu_tellOne_0 : decode bGu_tellOne 0 = .ok (.iload_n 3, 1) := by decide +kernel
theorem dGu_tellOne_1 : decode bGu_tellOne 1 = .ok (.ifCond .lt 18, 3) := by decide +kernel
theorem dGu_tellOne_4 : decode bGu_tellOne 4 = .ok (.iload_n 3, 1) := by decide +kernel
theorem dGu_tellOne_5 : decode bGu_tellOne 5 = .ok (.bipush 100, 2) := by decide +kernel
theorem dGu_tellOne_7 : decode bGu_tellOne 7 = .ok (.if_icmp .ge 12, 3) := by decide +kernel
theorem dGu_tellOne_10 : decode bGu_tellOne 10 = .ok (.aload_n 0, 1) := by decide +kernel
theorem dGu_tellOne_11 : decode bGu_tellOne 11 = .ok (.getfield 15, 3) := by decide +kernel
theorem dGu_tellOne_14 : decode bGu_tellOne 14 = .ok (.iload_n 3, 1) := by decide +kernel
theorem dGu_tellOne_15 : decode bGu_tellOne 15 = .ok (.baload, 1) := by decide +kernel
theorem dGu_tellOne_16 : decode bGu_tellOne 16 = .ok (.ifCond .eq 4, 3) := by decide +kernel
theorem dGu_tellOne_19 : decode bGu_tellOne 19 = .ok (.return_, 1) := by decide +kernel
theorem dGu_tellOne_20 : decode bGu_tellOne 20 = .ok (.aload_n 0, 1) := by decide +kernel
theorem dGu_tellOne_21 : decode bGu_tellOne 21 = .ok (.getfield 22, 3) := by decide +kernel
theorem dGu_tellOne_24 : decode bGu_tellOne 24 = .ok (.aload_n 1, 1) := by decide +kernel
theorem dGu_tellOne_25 : decode bGu_tellOne 25 = .ok (.iload_n 3, 1) := by decide +kernel
theorem dGu_tellOne_26 : decode bGu_tellOne 26 = .ok (.invokevirtual 30, 3) := by decide +kernel
theorem dGu_tellOne_29 : decode bGu_tellOne 29 = .ok (.iconst 0, 1) := by decide +kernel
theorem dGu_tellOne_30 : decode bGu_tellOne 30 = .ok (.istore 4, 2) := by decide +kernel
theorem dGu_tellOne_32 : decode bGu_tellOne 32 = .ok (.iload 4, 2) := by decide +kernel
theorem dGu_tellOne_34 : decode bGu_tellOne 34 = .ok (.bipush 12, 2) := by decide +kernel
theorem dGu_tellOne_36 : decode bGu_tellOne 36 = .ok (.if_icmp .ge 104, 3) := by decide +kernel
theorem dGu_tellOne_39 : decode bGu_tellOne 39 = .ok (.aload_n 0, 1) := by decide +kernel
theorem dGu_tellOne_40 : decode bGu_tellOne 40 = .ok (.getfield 22, 3) := by decide +kernel
theorem dGu_tellOne_43 : decode bGu_tellOne 43 = .ok (.aload_n 1, 1) := by decide +kernel
theorem dGu_tellOne_44 : decode bGu_tellOne 44 = .ok (.aload_n 2, 1) := by decide +kernel
theorem dGu_tellOne_45 : decode bGu_tellOne 45 = .ok (.iload 4, 2) := by decide +kernel
theorem dGu_tellOne_47 : decode bGu_tellOne 47 = .ok (.iconst 3, 1) := by decide +kernel
theorem dGu_tellOne_48 : decode bGu_tellOne 48 = .ok (.imul, 1) := by decide +kernel
theorem dGu_tellOne_49 : decode bGu_tellOne 49 = .ok (.invokevirtual 34, 3) := by decide +kernel
theorem dGu_tellOne_52 : decode bGu_tellOne 52 = .ok (.iload_n 3, 1) := by decide +kernel
theorem dGu_tellOne_53 : decode bGu_tellOne 53 = .ok (.bipush 12, 2) := by decide +kernel
theorem dGu_tellOne_55 : decode bGu_tellOne 55 = .ok (.imul, 1) := by decide +kernel
theorem dGu_tellOne_56 : decode bGu_tellOne 56 = .ok (.iload 4, 2) := by decide +kernel
theorem dGu_tellOne_58 : decode bGu_tellOne 58 = .ok (.iadd, 1) := by decide +kernel
theorem dGu_tellOne_59 : decode bGu_tellOne 59 = .ok (.bipush 7, 2) := by decide +kernel
theorem dGu_tellOne_61 : decode bGu_tellOne 61 = .ok (.imul, 1) := by decide +kernel
theorem dGu_tellOne_62 : decode bGu_tellOne 62 = .ok (.istore 5, 2) := by decide +kernel
theorem dGu_tellOne_64 : decode bGu_tellOne 64 = .ok (.aload_n 0, 1) := by decide +kernel
theorem dGu_tellOne_65 : decode bGu_tellOne 65 = .ok (.getfield 11, 3) := by decide +kernel
theorem dGu_tellOne_68 : decode bGu_tellOne 68 = .ok (.iload 5, 2) := by decide +kernel
theorem dGu_tellOne_70 : decode bGu_tellOne 70 = .ok (.aload_n 0, 1) := by decide +kernel
theorem dGu_tellOne_71 : decode bGu_tellOne 71 = .ok (.getfield 22, 3) := by decide +kernel
theorem dGu_tellOne_74 : decode bGu_tellOne 74 = .ok (.getfield 37, 3) := by decide +kernel
theorem dGu_tellOne_77 : decode bGu_tellOne 77 = .ok (.iastore, 1) := by decide +kernel
theorem dGu_tellOne_78 : decode bGu_tellOne 78 = .ok (.aload_n 0, 1) := by decide +kernel
theorem dGu_tellOne_79 : decode bGu_tellOne 79 = .ok (.getfield 11, 3) := by decide +kernel
theorem dGu_tellOne_82 : decode bGu_tellOne 82 = .ok (.iload 5, 2) := by decide +kernel
theorem dGu_tellOne_84 : decode bGu_tellOne 84 = .ok (.iconst 1, 1) := by decide +kernel
theorem dGu_tellOne_85 : decode bGu_tellOne 85 = .ok (.iadd, 1) := by decide +kernel
theorem dGu_tellOne_86 : decode bGu_tellOne 86 = .ok (.aload_n 0, 1) := by decide +kernel
theorem dGu_tellOne_87 : decode bGu_tellOne 87 = .ok (.getfield 22, 3) := by decide +kernel
theorem dGu_tellOne_90 : decode bGu_tellOne 90 = .ok (.getfield 41, 3) := by decide +kernel
theorem dGu_tellOne_93 : decode bGu_tellOne 93 = .ok (.iastore, 1) := by decide +kernel
theorem dGu_tellOne_94 : decode bGu_tellOne 94 = .ok (.iconst 0, 1) := by decide +kernel
theorem dGu_tellOne_95 : decode bGu_tellOne 95 = .ok (.istore 6, 2) := by decide +kernel
theorem dGu_tellOne_97 : decode bGu_tellOne 97 = .ok (.iload 6, 2) := by decide +kernel
theorem dGu_tellOne_99 : decode bGu_tellOne 99 = .ok (.iconst 5, 1) := by decide +kernel
theorem dGu_tellOne_100 : decode bGu_tellOne 100 = .ok (.if_icmp .ge 34, 3) := by decide +kernel
theorem dGu_tellOne_103 : decode bGu_tellOne 103 = .ok (.aload_n 0, 1) := by decide +kernel
theorem dGu_tellOne_104 : decode bGu_tellOne 104 = .ok (.getfield 11, 3) := by decide +kernel
theorem dGu_tellOne_107 : decode bGu_tellOne 107 = .ok (.iload 5, 2) := by decide +kernel
theorem dGu_tellOne_109 : decode bGu_tellOne 109 = .ok (.iconst 2, 1) := by decide +kernel
theorem dGu_tellOne_110 : decode bGu_tellOne 110 = .ok (.iadd, 1) := by decide +kernel
theorem dGu_tellOne_111 : decode bGu_tellOne 111 = .ok (.iload 6, 2) := by decide +kernel
theorem dGu_tellOne_113 : decode bGu_tellOne 113 = .ok (.iadd, 1) := by decide +kernel
theorem dGu_tellOne_114 : decode bGu_tellOne 114 = .ok (.aload_n 0, 1) := by decide +kernel
theorem dGu_tellOne_115 : decode bGu_tellOne 115 = .ok (.getfield 22, 3) := by decide +kernel
theorem dGu_tellOne_118 : decode bGu_tellOne 118 = .ok (.getfield 44, 3) := by decide +kernel
theorem dGu_tellOne_121 : decode bGu_tellOne 121 = .ok (.getfield 48, 3) := by decide +kernel
theorem dGu_tellOne_124 : decode bGu_tellOne 124 = .ok (.iload 6, 2) := by decide +kernel
theorem dGu_tellOne_126 : decode bGu_tellOne 126 = .ok (.iaload, 1) := by decide +kernel
theorem dGu_tellOne_127 : decode bGu_tellOne 127 = .ok (.iastore, 1) := by decide +kernel
theorem dGu_tellOne_128 : decode bGu_tellOne 128 = .ok (.iinc 6 1, 3) := by decide +kernel
theorem dGu_tellOne_131 : decode bGu_tellOne 131 = .ok (.goto (-34), 3) := by decide +kernel
theorem dGu_tellOne_134 : decode bGu_tellOne 134 = .ok (.iinc 4 1, 3) := by decide +kernel
theorem dGu_tellOne_137 : decode bGu_tellOne 137 = .ok (.goto (-105), 3) := by decide +kernel
theorem dGu_tellOne_140 : decode bGu_tellOne 140 = .ok (.aload_n 0, 1) := by decide +kernel
theorem dGu_tellOne_141 : decode bGu_tellOne 141 = .ok (.getfield 15, 3) := by decide +kernel
theorem dGu_tellOne_144 : decode bGu_tellOne 144 = .ok (.iload_n 3, 1) := by decide +kernel
theorem dGu_tellOne_145 : decode bGu_tellOne 145 = .ok (.iconst 1, 1) := by decide +kernel
theorem dGu_tellOne_146 : decode bGu_tellOne 146 = .ok (.bastore, 1) := by decide +kernel
theorem dGu_tellOne_147 : decode bGu_tellOne 147 = .ok (.return_, 1) := by decide +kernel
theorem dGu_toldOf_0 : decode bGu_toldOf 0 = .ok (.iload_n 1, 1) := by decide +kernel
theorem dGu_toldOf_1 : decode bGu_toldOf 1 = .ok (.ifCond .lt 26, 3) := by decide +kernel
theorem dGu_toldOf_4 : decode bGu_toldOf 4 = .ok (.iload_n 1, 1) := by decide +kernel
theorem dGu_toldOf_5 : decode bGu_toldOf 5 = .ok (.bipush 100, 2) := by decide +kernel
theorem dGu_toldOf_7 : decode bGu_toldOf 7 = .ok (.if_icmp .ge 20, 3) := by decide +kernel
theorem dGu_toldOf_10 : decode bGu_toldOf 10 = .ok (.iload_n 2, 1) := by decide +kernel
theorem dGu_toldOf_11 : decode bGu_toldOf 11 = .ok (.invokestatic 53, 3) := by decide +kernel
theorem dGu_toldOf_14 : decode bGu_toldOf 14 = .ok (.ifCond .eq 13, 3) := by decide +kernel
theorem dGu_toldOf_17 : decode bGu_toldOf 17 = .ok (.iload_n 3, 1) := by decide +kernel
theorem dGu_toldOf_18 : decode bGu_toldOf 18 = .ok (.ifCond .lt 9, 3) := by decide +kernel
theorem dGu_toldOf_21 : decode bGu_toldOf 21 = .ok (.iload_n 3, 1) := by decide +kernel
theorem dGu_toldOf_22 : decode bGu_toldOf 22 = .ok (.bipush 7, 2) := by decide +kernel
theorem dGu_toldOf_24 : decode bGu_toldOf 24 = .ok (.if_icmp .lt 5, 3) := by decide +kernel
theorem dGu_toldOf_27 : decode bGu_toldOf 27 = .ok (.iconst 0, 1) := by decide +kernel
theorem dGu_toldOf_28 : decode bGu_toldOf 28 = .ok (.ireturn, 1) := by decide +kernel
theorem dGu_toldOf_29 : decode bGu_toldOf 29 = .ok (.aload_n 0, 1) := by decide +kernel
theorem dGu_toldOf_30 : decode bGu_toldOf 30 = .ok (.getfield 11, 3) := by decide +kernel
theorem dGu_toldOf_33 : decode bGu_toldOf 33 = .ok (.iload_n 1, 1) := by decide +kernel
theorem dGu_toldOf_34 : decode bGu_toldOf 34 = .ok (.bipush 12, 2) := by decide +kernel
theorem dGu_toldOf_36 : decode bGu_toldOf 36 = .ok (.imul, 1) := by decide +kernel
theorem dGu_toldOf_37 : decode bGu_toldOf 37 = .ok (.iload_n 2, 1) := by decide +kernel
theorem dGu_toldOf_38 : decode bGu_toldOf 38 = .ok (.iadd, 1) := by decide +kernel
theorem dGu_toldOf_39 : decode bGu_toldOf 39 = .ok (.bipush 7, 2) := by decide +kernel
theorem dGu_toldOf_41 : decode bGu_toldOf 41 = .ok (.imul, 1) := by decide +kernel
theorem dGu_toldOf_42 : decode bGu_toldOf 42 = .ok (.iload_n 3, 1) := by decide +kernel
theorem dGu_toldOf_43 : decode bGu_toldOf 43 = .ok (.iadd, 1) := by decide +kernel
theorem dGu_toldOf_44 : decode bGu_toldOf 44 = .ok (.iaload, 1) := by decide +kernel
theorem dGu_toldOf_45 : decode bGu_toldOf 45 = .ok (.ireturn, 1) := by decide +kernel
theorem dLd_init_0 : decode bLd_init 0 = .ok (.aload_n 0, 1) := by decide +kernel
theorem dLd_init_1 : decode bLd_init 1 = .ok (.invokespecial 3, 3) := by decide +kernel
theorem dLd_init_4 : decode bLd_init 4 = .ok (.aload_n 0, 1) := by decide +kernel
theorem dLd_init_5 : decode bLd_init 5 = .ok (.iconst 5, 1) := by decide +kernel
theorem dLd_init_6 : decode bLd_init 6 = .ok (.newarray .int, 2) := by decide +kernel
theorem dLd_init_8 : decode bLd_init 8 = .ok (.putfield 9, 3) := by decide +kernel
theorem dLd_init_11 : decode bLd_init 11 = .ok (.aload_n 0, 1) := by decide +kernel
theorem dLd_init_12 : decode bLd_init 12 = .ok (.iconst 5, 1) := by decide +kernel
theorem dLd_init_13 : decode bLd_init 13 = .ok (.newarray .int, 2) := by decide +kernel
theorem dLd_init_15 : decode bLd_init 15 = .ok (.putfield 15, 3) := by decide +kernel
theorem dLd_init_18 : decode bLd_init 18 = .ok (.aload_n 0, 1) := by decide +kernel
theorem dLd_init_19 : decode bLd_init 19 = .ok (.iconst 5, 1) := by decide +kernel
theorem dLd_init_20 : decode bLd_init 20 = .ok (.newarray .int, 2) := by decide +kernel
theorem dLd_init_22 : decode bLd_init 22 = .ok (.putfield 18, 3) := by decide +kernel
theorem dLd_init_25 : decode bLd_init 25 = .ok (.return_, 1) := by decide +kernel
theorem dLd_makeEmpty_0 : decode bLd_makeEmpty 0 = .ok (.aload_n 0, 1) := by decide +kernel
theorem dLd_makeEmpty_1 : decode bLd_makeEmpty 1 = .ok (.getfield 9, 3) := by decide +kernel
theorem dLd_makeEmpty_4 : decode bLd_makeEmpty 4 = .ok (.invokestatic 21, 3) := by decide +kernel
theorem dLd_makeEmpty_7 : decode bLd_makeEmpty 7 = .ok (.aload_n 0, 1) := by decide +kernel
theorem dLd_makeEmpty_8 : decode bLd_makeEmpty 8 = .ok (.getfield 15, 3) := by decide +kernel
theorem dLd_makeEmpty_11 : decode bLd_makeEmpty 11 = .ok (.invokestatic 21, 3) := by decide +kernel
theorem dLd_makeEmpty_14 : decode bLd_makeEmpty 14 = .ok (.aload_n 0, 1) := by decide +kernel
theorem dLd_makeEmpty_15 : decode bLd_makeEmpty 15 = .ok (.getfield 18, 3) := by decide +kernel
theorem dLd_makeEmpty_18 : decode bLd_makeEmpty 18 = .ok (.invokestatic 21, 3) := by decide +kernel
theorem dLd_makeEmpty_21 : decode bLd_makeEmpty 21 = .ok (.return_, 1) := by decide +kernel
theorem dLd_copyFrom_0 : decode bLd_copyFrom 0 = .ok (.aload_n 1, 1) := by decide +kernel
theorem dLd_copyFrom_1 : decode bLd_copyFrom 1 = .ok (.getfield 9, 3) := by decide +kernel
theorem dLd_copyFrom_4 : decode bLd_copyFrom 4 = .ok (.aload_n 0, 1) := by decide +kernel
theorem dLd_copyFrom_5 : decode bLd_copyFrom 5 = .ok (.getfield 9, 3) := by decide +kernel
theorem dLd_copyFrom_8 : decode bLd_copyFrom 8 = .ok (.invokestatic 25, 3) := by decide +kernel
theorem dLd_copyFrom_11 : decode bLd_copyFrom 11 = .ok (.aload_n 1, 1) := by decide +kernel
theorem dLd_copyFrom_12 : decode bLd_copyFrom 12 = .ok (.getfield 15, 3) := by decide +kernel
theorem dLd_copyFrom_15 : decode bLd_copyFrom 15 = .ok (.aload_n 0, 1) := by decide +kernel
theorem dLd_copyFrom_16 : decode bLd_copyFrom 16 = .ok (.getfield 15, 3) := by decide +kernel
theorem dLd_copyFrom_19 : decode bLd_copyFrom 19 = .ok (.invokestatic 25, 3) := by decide +kernel
theorem dLd_copyFrom_22 : decode bLd_copyFrom 22 = .ok (.aload_n 1, 1) := by decide +kernel
theorem dLd_copyFrom_23 : decode bLd_copyFrom 23 = .ok (.getfield 18, 3) := by decide +kernel
theorem dLd_copyFrom_26 : decode bLd_copyFrom 26 = .ok (.aload_n 0, 1) := by decide +kernel
theorem dLd_copyFrom_27 : decode bLd_copyFrom 27 = .ok (.getfield 18, 3) := by decide +kernel
theorem dLd_copyFrom_30 : decode bLd_copyFrom 30 = .ok (.invokestatic 25, 3) := by decide +kernel
theorem dLd_copyFrom_33 : decode bLd_copyFrom 33 = .ok (.return_, 1) := by decide +kernel
theorem dLd_takeBack_0 : decode bLd_takeBack 0 = .ok (.iconst 0, 1) := by decide +kernel
theorem dLd_takeBack_1 : decode bLd_takeBack 1 = .ok (.istore_n 1, 1) := by decide +kernel
theorem dLd_takeBack_2 : decode bLd_takeBack 2 = .ok (.iload_n 1, 1) := by decide +kernel
theorem dLd_takeBack_3 : decode bLd_takeBack 3 = .ok (.iconst 5, 1) := by decide +kernel
theorem dLd_takeBack_4 : decode bLd_takeBack 4 = .ok (.if_icmp .ge 31, 3) := by decide +kernel
theorem dLd_takeBack_7 : decode bLd_takeBack 7 = .ok (.aload_n 0, 1) := by decide +kernel
theorem dLd_takeBack_8 : decode bLd_takeBack 8 = .ok (.getfield 9, 3) := by decide +kernel
theorem dLd_takeBack_11 : decode bLd_takeBack 11 = .ok (.iload_n 1, 1) := by decide +kernel
theorem dLd_takeBack_12 : decode bLd_takeBack 12 = .ok (.dup2, 1) := by decide +kernel
theorem dLd_takeBack_13 : decode bLd_takeBack 13 = .ok (.iaload, 1) := by decide +kernel
theorem dLd_takeBack_14 : decode bLd_takeBack 14 = .ok (.aload_n 0, 1) := by decide +kernel
theorem dLd_takeBack_15 : decode bLd_takeBack 15 = .ok (.getfield 15, 3) := by decide +kernel
theorem dLd_takeBack_18 : decode bLd_takeBack 18 = .ok (.iload_n 1, 1) := by decide +kernel
theorem dLd_takeBack_19 : decode bLd_takeBack 19 = .ok (.iaload, 1) := by decide +kernel
theorem dLd_takeBack_20 : decode bLd_takeBack 20 = .ok (.iadd, 1) := by decide +kernel
theorem dLd_takeBack_21 : decode bLd_takeBack 21 = .ok (.iastore, 1) := by decide +kernel
theorem dLd_takeBack_22 : decode bLd_takeBack 22 = .ok (.aload_n 0, 1) := by decide +kernel
theorem dLd_takeBack_23 : decode bLd_takeBack 23 = .ok (.getfield 15, 3) := by decide +kernel
theorem dLd_takeBack_26 : decode bLd_takeBack 26 = .ok (.iload_n 1, 1) := by decide +kernel
theorem dLd_takeBack_27 : decode bLd_takeBack 27 = .ok (.iconst 0, 1) := by decide +kernel
theorem dLd_takeBack_28 : decode bLd_takeBack 28 = .ok (.iastore, 1) := by decide +kernel
theorem dLd_takeBack_29 : decode bLd_takeBack 29 = .ok (.iinc 1 1, 3) := by decide +kernel
theorem dLd_takeBack_32 : decode bLd_takeBack 32 = .ok (.goto (-30), 3) := by decide +kernel
theorem dLd_takeBack_35 : decode bLd_takeBack 35 = .ok (.return_, 1) := by decide +kernel
theorem dLd_breakUp_0 : decode bLd_breakUp 0 = .ok (.aload_n 1, 1) := by decide +kernel
theorem dLd_breakUp_1 : decode bLd_breakUp 1 = .ok (.getfield 29, 3) := by decide +kernel
theorem dLd_breakUp_4 : decode bLd_breakUp 4 = .ok (.iconst 5, 1) := by decide +kernel
theorem dLd_breakUp_5 : decode bLd_breakUp 5 = .ok (.invokestatic 35, 3) := by decide +kernel
theorem dLd_breakUp_8 : decode bLd_breakUp 8 = .ok (.iconst 1, 1) := by decide +kernel
theorem dLd_breakUp_9 : decode bLd_breakUp 9 = .ok (.isub, 1) := by decide +kernel
theorem dLd_breakUp_10 : decode bLd_breakUp 10 = .ok (.istore_n 3, 1) := by decide +kernel
theorem dLd_breakUp_11 : decode bLd_breakUp 11 = .ok (.iload_n 3, 1) := by decide +kernel
theorem dLd_breakUp_12 : decode bLd_breakUp 12 = .ok (.iconst 1, 1) := by decide +kernel
theorem dLd_breakUp_13 : decode bLd_breakUp 13 = .ok (.isub, 1) := by decide +kernel
theorem dLd_breakUp_14 : decode bLd_breakUp 14 = .ok (.istore 4, 2) := by decide +kernel
theorem dLd_breakUp_16 : decode bLd_breakUp 16 = .ok (.iload 4, 2) := by decide +kernel
theorem dLd_breakUp_18 : decode bLd_breakUp 18 = .ok (.ifCond .lt 113, 3) := by decide +kernel
theorem dLd_breakUp_21 : decode bLd_breakUp 21 = .ok (.aload_n 0, 1) := by decide +kernel
theorem dLd_breakUp_22 : decode bLd_breakUp 22 = .ok (.getfield 9, 3) := by decide +kernel
theorem dLd_breakUp_25 : decode bLd_breakUp 25 = .ok (.iload 4, 2) := by decide +kernel
theorem dLd_breakUp_27 : decode bLd_breakUp 27 = .ok (.iaload, 1) := by decide +kernel
theorem dLd_breakUp_28 : decode bLd_breakUp 28 = .ok (.aload_n 1, 1) := by decide +kernel
theorem dLd_breakUp_29 : decode bLd_breakUp 29 = .ok (.getfield 41, 3) := by decide +kernel
theorem dLd_breakUp_32 : decode bLd_breakUp 32 = .ok (.iload 4, 2) := by decide +kernel
theorem dLd_breakUp_34 : decode bLd_breakUp 34 = .ok (.iaload, 1) := by decide +kernel
theorem dLd_breakUp_35 : decode bLd_breakUp 35 = .ok (.iload_n 2, 1) := by decide +kernel
theorem dLd_breakUp_36 : decode bLd_breakUp 36 = .ok (.imul, 1) := by decide +kernel
theorem dLd_breakUp_37 : decode bLd_breakUp 37 = .ok (.sipush 10000, 3) := by decide +kernel
theorem dLd_breakUp_40 : decode bLd_breakUp 40 = .ok (.invokestatic 44, 3) := by decide +kernel
theorem dLd_breakUp_43 : decode bLd_breakUp 43 = .ok (.istore 5, 2) := by decide +kernel
theorem dLd_breakUp_45 : decode bLd_breakUp 45 = .ok (.iload 4, 2) := by decide +kernel
theorem dLd_breakUp_47 : decode bLd_breakUp 47 = .ok (.iconst 2, 1) := by decide +kernel
theorem dLd_breakUp_48 : decode bLd_breakUp 48 = .ok (.iadd, 1) := by decide +kernel
theorem dLd_breakUp_49 : decode bLd_breakUp 49 = .ok (.iload_n 3, 1) := by decide +kernel
theorem dLd_breakUp_50 : decode bLd_breakUp 50 = .ok (.if_icmp .le 8, 3) := by decide +kernel
theorem dLd_breakUp_53 : decode bLd_breakUp 53 = .ok (.iload 5, 2) := by decide +kernel
theorem dLd_breakUp_55 : decode bLd_breakUp 55 = .ok (.goto 17, 3) := by decide +kernel
theorem dLd_breakUp_58 : decode bLd_breakUp 58 = .ok (.iload 5, 2) := by decide +kernel
theorem dLd_breakUp_60 : decode bLd_breakUp 60 = .ok (.aload_n 1, 1) := by decide +kernel
theorem dLd_breakUp_61 : decode bLd_breakUp 61 = .ok (.getfield 48, 3) := by decide +kernel
theorem dLd_breakUp_64 : decode bLd_breakUp 64 = .ok (.iload 4, 2) := by decide +kernel
theorem dLd_breakUp_66 : decode bLd_breakUp 66 = .ok (.iaload, 1) := by decide +kernel
theorem dLd_breakUp_67 : decode bLd_breakUp 67 = .ok (.bipush 100, 2) := by decide +kernel
theorem dLd_breakUp_69 : decode bLd_breakUp 69 = .ok (.invokestatic 44, 3) := by decide +kernel
theorem dLd_breakUp_72 : decode bLd_breakUp 72 = .ok (.istore 6, 2) := by decide +kernel
theorem dLd_breakUp_74 : decode bLd_breakUp 74 = .ok (.aload_n 0, 1) := by decide +kernel
theorem dLd_breakUp_75 : decode bLd_breakUp 75 = .ok (.getfield 9, 3) := by decide +kernel
theorem dLd_breakUp_78 : decode bLd_breakUp 78 = .ok (.iload 4, 2) := by decide +kernel
theorem dLd_breakUp_80 : decode bLd_breakUp 80 = .ok (.dup2, 1) := by decide +kernel
theorem dLd_breakUp_81 : decode bLd_breakUp 81 = .ok (.iaload, 1) := by decide +kernel
theorem dLd_breakUp_82 : decode bLd_breakUp 82 = .ok (.iload 5, 2) := by decide +kernel
theorem dLd_breakUp_84 : decode bLd_breakUp 84 = .ok (.isub, 1) := by decide +kernel
theorem dLd_breakUp_85 : decode bLd_breakUp 85 = .ok (.iastore, 1) := by decide +kernel
theorem dLd_breakUp_86 : decode bLd_breakUp 86 = .ok (.aload_n 0, 1) := by decide +kernel
theorem dLd_breakUp_87 : decode bLd_breakUp 87 = .ok (.getfield 9, 3) := by decide +kernel
theorem dLd_breakUp_90 : decode bLd_breakUp 90 = .ok (.iload 4, 2) := by decide +kernel
theorem dLd_breakUp_92 : decode bLd_breakUp 92 = .ok (.iconst 1, 1) := by decide +kernel
theorem dLd_breakUp_93 : decode bLd_breakUp 93 = .ok (.iadd, 1) := by decide +kernel
theorem dLd_breakUp_94 : decode bLd_breakUp 94 = .ok (.dup2, 1) := by decide +kernel
theorem dLd_breakUp_95 : decode bLd_breakUp 95 = .ok (.iaload, 1) := by decide +kernel
theorem dLd_breakUp_96 : decode bLd_breakUp 96 = .ok (.iload 6, 2) := by decide +kernel
theorem dLd_breakUp_98 : decode bLd_breakUp 98 = .ok (.iadd, 1) := by decide +kernel
theorem dLd_breakUp_99 : decode bLd_breakUp 99 = .ok (.iastore, 1) := by decide +kernel
theorem dLd_breakUp_100 : decode bLd_breakUp 100 = .ok (.iload 4, 2) := by decide +kernel
theorem dLd_breakUp_102 : decode bLd_breakUp 102 = .ok (.iconst 2, 1) := by decide +kernel
theorem dLd_breakUp_103 : decode bLd_breakUp 103 = .ok (.iadd, 1) := by decide +kernel
theorem dLd_breakUp_104 : decode bLd_breakUp 104 = .ok (.iload_n 3, 1) := by decide +kernel
theorem dLd_breakUp_105 : decode bLd_breakUp 105 = .ok (.if_icmp .gt 20, 3) := by decide +kernel
theorem dLd_breakUp_108 : decode bLd_breakUp 108 = .ok (.aload_n 0, 1) := by decide +kernel
theorem dLd_breakUp_109 : decode bLd_breakUp 109 = .ok (.getfield 9, 3) := by decide +kernel
theorem dLd_breakUp_112 : decode bLd_breakUp 112 = .ok (.iload 4, 2) := by decide +kernel
theorem dLd_breakUp_114 : decode bLd_breakUp 114 = .ok (.iconst 2, 1) := by decide +kernel
theorem dLd_breakUp_115 : decode bLd_breakUp 115 = .ok (.iadd, 1) := by decide +kernel
theorem dLd_breakUp_116 : decode bLd_breakUp 116 = .ok (.dup2, 1) := by decide +kernel
theorem dLd_breakUp_117 : decode bLd_breakUp 117 = .ok (.iaload, 1) := by decide +kernel
theorem dLd_breakUp_118 : decode bLd_breakUp 118 = .ok (.iload 5, 2) := by decide +kernel
theorem dLd_breakUp_120 : decode bLd_breakUp 120 = .ok (.iload 6, 2) := by decide +kernel
theorem dLd_breakUp_122 : decode bLd_breakUp 122 = .ok (.isub, 1) := by decide +kernel
theorem dLd_breakUp_123 : decode bLd_breakUp 123 = .ok (.iadd, 1) := by decide +kernel
theorem dLd_breakUp_124 : decode bLd_breakUp 124 = .ok (.iastore, 1) := by decide +kernel
theorem dLd_breakUp_125 : decode bLd_breakUp 125 = .ok (.iinc 4 (-1), 3) := by decide +kernel
theorem dLd_breakUp_128 : decode bLd_breakUp 128 = .ok (.goto (-112), 3) := by decide +kernel
theorem dLd_breakUp_131 : decode bLd_breakUp 131 = .ok (.return_, 1) := by decide +kernel
theorem dLd_sift_0 : decode bLd_sift 0 = .ok (.iload_n 3, 1) := by decide +kernel
theorem dLd_sift_1 : decode bLd_sift 1 = .ok (.aload_n 1, 1) := by decide +kernel
theorem dLd_sift_2 : decode bLd_sift 2 = .ok (.getfield 51, 3) := by decide +kernel
theorem dLd_sift_5 : decode bLd_sift 5 = .ok (.imul, 1) := by decide +kernel
theorem dLd_sift_6 : decode bLd_sift 6 = .ok (.bipush 100, 2) := by decide +kernel
theorem dLd_sift_8 : decode bLd_sift 8 = .ok (.invokestatic 35, 3) := by decide +kernel
theorem dLd_sift_11 : decode bLd_sift 11 = .ok (.istore 4, 2) := by decide +kernel
theorem dLd_sift_13 : decode bLd_sift 13 = .ok (.iconst 0, 1) := by decide +kernel
theorem dLd_sift_14 : decode bLd_sift 14 = .ok (.istore 5, 2) := by decide +kernel
theorem dLd_sift_16 : decode bLd_sift 16 = .ok (.iload 5, 2) := by decide +kernel
theorem dLd_sift_18 : decode bLd_sift 18 = .ok (.iconst 5, 1) := by decide +kernel
theorem dLd_sift_19 : decode bLd_sift 19 = .ok (.if_icmp .ge 89, 3) := by decide +kernel
theorem dLd_sift_22 : decode bLd_sift 22 = .ok (.aload_n 0, 1) := by decide +kernel
theorem dLd_sift_23 : decode bLd_sift 23 = .ok (.getfield 9, 3) := by decide +kernel
theorem dLd_sift_26 : decode bLd_sift 26 = .ok (.iload 5, 2) := by decide +kernel
theorem dLd_sift_28 : decode bLd_sift 28 = .ok (.iaload, 1) := by decide +kernel
theorem dLd_sift_29 : decode bLd_sift 29 = .ok (.bipush 20, 2) := by decide +kernel
theorem dLd_sift_31 : decode bLd_sift 31 = .ok (.bipush 10, 2) := by decide +kernel
theorem dLd_sift_33 : decode bLd_sift 33 = .ok (.iload_n 2, 1) := by decide +kernel
theorem dLd_sift_34 : decode bLd_sift 34 = .ok (.imul, 1) := by decide +kernel
theorem dLd_sift_35 : decode bLd_sift 35 = .ok (.iadd, 1) := by decide +kernel
theorem dLd_sift_36 : decode bLd_sift 36 = .ok (.bipush 100, 2) := by decide +kernel
theorem dLd_sift_38 : decode bLd_sift 38 = .ok (.invokestatic 44, 3) := by decide +kernel
theorem dLd_sift_41 : decode bLd_sift 41 = .ok (.istore 6, 2) := by decide +kernel
theorem dLd_sift_43 : decode bLd_sift 43 = .ok (.aload_n 0, 1) := by decide +kernel
theorem dLd_sift_44 : decode bLd_sift 44 = .ok (.getfield 9, 3) := by decide +kernel
theorem dLd_sift_47 : decode bLd_sift 47 = .ok (.iload 5, 2) := by decide +kernel
theorem dLd_sift_49 : decode bLd_sift 49 = .ok (.dup2, 1) := by decide +kernel
theorem dLd_sift_50 : decode bLd_sift 50 = .ok (.iaload, 1) := by decide +kernel
theorem dLd_sift_51 : decode bLd_sift 51 = .ok (.iload 6, 2) := by decide +kernel
theorem dLd_sift_53 : decode bLd_sift 53 = .ok (.isub, 1) := by decide +kernel
theorem dLd_sift_54 : decode bLd_sift 54 = .ok (.iastore, 1) := by decide +kernel
theorem dLd_sift_55 : decode bLd_sift 55 = .ok (.aload_n 0, 1) := by decide +kernel
theorem dLd_sift_56 : decode bLd_sift 56 = .ok (.getfield 18, 3) := by decide +kernel
theorem dLd_sift_59 : decode bLd_sift 59 = .ok (.iload 5, 2) := by decide +kernel
theorem dLd_sift_61 : decode bLd_sift 61 = .ok (.iload 5, 2) := by decide +kernel
theorem dLd_sift_63 : decode bLd_sift 63 = .ok (.aload_n 1, 1) := by decide +kernel
theorem dLd_sift_64 : decode bLd_sift 64 = .ok (.getfield 54, 3) := by decide +kernel
theorem dLd_sift_67 : decode bLd_sift 67 = .ok (.if_icmp .ge 15, 3) := by decide +kernel
theorem dLd_sift_70 : decode bLd_sift 70 = .ok (.iload 6, 2) := by decide +kernel
theorem dLd_sift_72 : decode bLd_sift 72 = .ok (.iload 4, 2) := by decide +kernel
theorem dLd_sift_74 : decode bLd_sift 74 = .ok (.bipush 100, 2) := by decide +kernel
theorem dLd_sift_76 : decode bLd_sift 76 = .ok (.invokestatic 44, 3) := by decide +kernel
theorem dLd_sift_79 : decode bLd_sift 79 = .ok (.goto 5, 3) := by decide +kernel
theorem dLd_sift_82 : decode bLd_sift 82 = .ok (.iload 6, 2) := by decide +kernel
theorem dLd_sift_84 : decode bLd_sift 84 = .ok (.iastore, 1) := by decide +kernel
theorem dLd_sift_85 : decode bLd_sift 85 = .ok (.aload_n 0, 1) := by decide +kernel
theorem dLd_sift_86 : decode bLd_sift 86 = .ok (.getfield 15, 3) := by decide +kernel
theorem dLd_sift_89 : decode bLd_sift 89 = .ok (.iload 5, 2) := by decide +kernel
theorem dLd_sift_91 : decode bLd_sift 91 = .ok (.iload 6, 2) := by decide +kernel
theorem dLd_sift_93 : decode bLd_sift 93 = .ok (.aload_n 0, 1) := by decide +kernel
theorem dLd_sift_94 : decode bLd_sift 94 = .ok (.getfield 18, 3) := by decide +kernel
theorem dLd_sift_97 : decode bLd_sift 97 = .ok (.iload 5, 2) := by decide +kernel
theorem dLd_sift_99 : decode bLd_sift 99 = .ok (.iaload, 1) := by decide +kernel
theorem dLd_sift_100 : decode bLd_sift 100 = .ok (.isub, 1) := by decide +kernel
theorem dLd_sift_101 : decode bLd_sift 101 = .ok (.iastore, 1) := by decide +kernel
theorem dLd_sift_102 : decode bLd_sift 102 = .ok (.iinc 5 1, 3) := by decide +kernel
theorem dLd_sift_105 : decode bLd_sift 105 = .ok (.goto (-89), 3) := by decide +kernel
theorem dLd_sift_108 : decode bLd_sift 108 = .ok (.return_, 1) := by decide +kernel
theorem dLd_digOut_0 : decode bLd_digOut 0 = .ok (.iconst 0, 1) := by decide +kernel
theorem dLd_digOut_1 : decode bLd_digOut 1 = .ok (.istore_n 1, 1) := by decide +kernel
theorem dLd_digOut_2 : decode bLd_digOut 2 = .ok (.iconst 0, 1) := by decide +kernel
theorem dLd_digOut_3 : decode bLd_digOut 3 = .ok (.istore_n 2, 1) := by decide +kernel
theorem dLd_digOut_4 : decode bLd_digOut 4 = .ok (.iload_n 2, 1) := by decide +kernel
theorem dLd_digOut_5 : decode bLd_digOut 5 = .ok (.iconst 5, 1) := by decide +kernel
theorem dLd_digOut_6 : decode bLd_digOut 6 = .ok (.if_icmp .ge 44, 3) := by decide +kernel
theorem dLd_digOut_9 : decode bLd_digOut 9 = .ok (.aload_n 0, 1) := by decide +kernel
theorem dLd_digOut_10 : decode bLd_digOut 10 = .ok (.getfield 9, 3) := by decide +kernel
theorem dLd_digOut_13 : decode bLd_digOut 13 = .ok (.iload_n 2, 1) := by decide +kernel
theorem dLd_digOut_14 : decode bLd_digOut 14 = .ok (.iaload, 1) := by decide +kernel
theorem dLd_digOut_15 : decode bLd_digOut 15 = .ok (.aload_n 0, 1) := by decide +kernel
theorem dLd_digOut_16 : decode bLd_digOut 16 = .ok (.getfield 9, 3) := by decide +kernel
theorem dLd_digOut_19 : decode bLd_digOut 19 = .ok (.iload_n 2, 1) := by decide +kernel
theorem dLd_digOut_20 : decode bLd_digOut 20 = .ok (.iaload, 1) := by decide +kernel
theorem dLd_digOut_21 : decode bLd_digOut 21 = .ok (.bipush 10, 2) := by decide +kernel
theorem dLd_digOut_23 : decode bLd_digOut 23 = .ok (.idiv, 1) := by decide +kernel
theorem dLd_digOut_24 : decode bLd_digOut 24 = .ok (.iconst 1, 1) := by decide +kernel
theorem dLd_digOut_25 : decode bLd_digOut 25 = .ok (.iadd, 1) := by decide +kernel
theorem dLd_digOut_26 : decode bLd_digOut 26 = .ok (.invokestatic 35, 3) := by decide +kernel
theorem dLd_digOut_29 : decode bLd_digOut 29 = .ok (.istore_n 3, 1) := by decide +kernel
theorem dLd_digOut_30 : decode bLd_digOut 30 = .ok (.aload_n 0, 1) := by decide +kernel
theorem dLd_digOut_31 : decode bLd_digOut 31 = .ok (.getfield 9, 3) := by decide +kernel
theorem dLd_digOut_34 : decode bLd_digOut 34 = .ok (.iload_n 2, 1) := by decide +kernel
theorem dLd_digOut_35 : decode bLd_digOut 35 = .ok (.dup2, 1) := by decide +kernel
theorem dLd_digOut_36 : decode bLd_digOut 36 = .ok (.iaload, 1) := by decide +kernel
theorem dLd_digOut_37 : decode bLd_digOut 37 = .ok (.iload_n 3, 1) := by decide +kernel
theorem dLd_digOut_38 : decode bLd_digOut 38 = .ok (.isub, 1) := by decide +kernel
theorem dLd_digOut_39 : decode bLd_digOut 39 = .ok (.iastore, 1) := by decide +kernel
theorem dLd_digOut_40 : decode bLd_digOut 40 = .ok (.iload_n 1, 1) := by decide +kernel
theorem dLd_digOut_41 : decode bLd_digOut 41 = .ok (.iload_n 3, 1) := by decide +kernel
theorem dLd_digOut_42 : decode bLd_digOut 42 = .ok (.iadd, 1) := by decide +kernel
theorem dLd_digOut_43 : decode bLd_digOut 43 = .ok (.istore_n 1, 1) := by decide +kernel
theorem dLd_digOut_44 : decode bLd_digOut 44 = .ok (.iinc 2 1, 3) := by decide +kernel
theorem dLd_digOut_47 : decode bLd_digOut 47 = .ok (.goto (-43), 3) := by decide +kernel
theorem dLd_digOut_50 : decode bLd_digOut 50 = .ok (.iload_n 1, 1) := by decide +kernel
theorem dLd_digOut_51 : decode bLd_digOut 51 = .ok (.ireturn, 1) := by decide +kernel
theorem dMl_init_0 : decode bMl_init 0 = .ok (.aload_n 0, 1) := by decide +kernel
theorem dMl_init_1 : decode bMl_init 1 = .ok (.invokespecial 3, 3) := by decide +kernel
theorem dMl_init_4 : decode bMl_init 4 = .ok (.aload_n 0, 1) := by decide +kernel
theorem dMl_init_5 : decode bMl_init 5 = .ok (.iconst (-1), 1) := by decide +kernel
theorem dMl_init_6 : decode bMl_init 6 = .ok (.putfield 9, 3) := by decide +kernel
theorem dMl_init_9 : decode bMl_init 9 = .ok (.aload_n 0, 1) := by decide +kernel
theorem dMl_init_10 : decode bMl_init 10 = .ok (.bipush 6, 2) := by decide +kernel
theorem dMl_init_12 : decode bMl_init 12 = .ok (.newarray .int, 2) := by decide +kernel
theorem dMl_init_14 : decode bMl_init 14 = .ok (.putfield 15, 3) := by decide +kernel
theorem dMl_init_17 : decode bMl_init 17 = .ok (.aload_n 0, 1) := by decide +kernel
theorem dMl_init_18 : decode bMl_init 18 = .ok (.iconst 5, 1) := by decide +kernel
theorem dMl_init_19 : decode bMl_init 19 = .ok (.newarray .int, 2) := by decide +kernel
theorem dMl_init_21 : decode bMl_init 21 = .ok (.putfield 19, 3) := by decide +kernel
theorem dMl_init_24 : decode bMl_init 24 = .ok (.aload_n 0, 1) := by decide +kernel
theorem dMl_init_25 : decode bMl_init 25 = .ok (.iconst 5, 1) := by decide +kernel
theorem dMl_init_26 : decode bMl_init 26 = .ok (.newarray .int, 2) := by decide +kernel
theorem dMl_init_28 : decode bMl_init 28 = .ok (.putfield 22, 3) := by decide +kernel
theorem dMl_init_31 : decode bMl_init 31 = .ok (.aload_n 0, 1) := by decide +kernel
theorem dMl_init_32 : decode bMl_init 32 = .ok (.iconst 4, 1) := by decide +kernel
theorem dMl_init_33 : decode bMl_init 33 = .ok (.newarray .int, 2) := by decide +kernel
theorem dMl_init_35 : decode bMl_init 35 = .ok (.putfield 25, 3) := by decide +kernel
theorem dMl_init_38 : decode bMl_init 38 = .ok (.aload_n 0, 1) := by decide +kernel
theorem dMl_init_39 : decode bMl_init 39 = .ok (.bipush 20, 2) := by decide +kernel
theorem dMl_init_41 : decode bMl_init 41 = .ok (.newarray .int, 2) := by decide +kernel
theorem dMl_init_43 : decode bMl_init 43 = .ok (.putfield 28, 3) := by decide +kernel
theorem dMl_init_46 : decode bMl_init 46 = .ok (.return_, 1) := by decide +kernel
theorem dMl_makeEmpty_0 : decode bMl_makeEmpty 0 = .ok (.aload_n 0, 1) := by decide +kernel
theorem dMl_makeEmpty_1 : decode bMl_makeEmpty 1 = .ok (.iconst 0, 1) := by decide +kernel
theorem dMl_makeEmpty_2 : decode bMl_makeEmpty 2 = .ok (.putfield 31, 3) := by decide +kernel
theorem dMl_makeEmpty_5 : decode bMl_makeEmpty 5 = .ok (.aload_n 0, 1) := by decide +kernel
theorem dMl_makeEmpty_6 : decode bMl_makeEmpty 6 = .ok (.iconst 0, 1) := by decide +kernel
theorem dMl_makeEmpty_7 : decode bMl_makeEmpty 7 = .ok (.putfield 34, 3) := by decide +kernel
theorem dMl_makeEmpty_10 : decode bMl_makeEmpty 10 = .ok (.aload_n 0, 1) := by decide +kernel
theorem dMl_makeEmpty_11 : decode bMl_makeEmpty 11 = .ok (.iconst (-1), 1) := by decide +kernel
theorem dMl_makeEmpty_12 : decode bMl_makeEmpty 12 = .ok (.putfield 9, 3) := by decide +kernel
theorem dMl_makeEmpty_15 : decode bMl_makeEmpty 15 = .ok (.aload_n 0, 1) := by decide +kernel
theorem dMl_makeEmpty_16 : decode bMl_makeEmpty 16 = .ok (.iconst 0, 1) := by decide +kernel
theorem dMl_makeEmpty_17 : decode bMl_makeEmpty 17 = .ok (.putfield 37, 3) := by decide +kernel
theorem dMl_makeEmpty_20 : decode bMl_makeEmpty 20 = .ok (.aload_n 0, 1) := by decide +kernel
theorem dMl_makeEmpty_21 : decode bMl_makeEmpty 21 = .ok (.iconst 0, 1) := by decide +kernel
theorem dMl_makeEmpty_22 : decode bMl_makeEmpty 22 = .ok (.putfield 40, 3) := by decide +kernel
theorem dMl_makeEmpty_25 : decode bMl_makeEmpty 25 = .ok (.aload_n 0, 1) := by decide +kernel
theorem dMl_makeEmpty_26 : decode bMl_makeEmpty 26 = .ok (.iconst 0, 1) := by decide +kernel
theorem dMl_makeEmpty_27 : decode bMl_makeEmpty 27 = .ok (.putfield 43, 3) := by decide +kernel
theorem dMl_makeEmpty_30 : decode bMl_makeEmpty 30 = .ok (.aload_n 0, 1) := by decide +kernel
theorem dMl_makeEmpty_31 : decode bMl_makeEmpty 31 = .ok (.iconst 0, 1) := by decide +kernel
theorem dMl_makeEmpty_32 : decode bMl_makeEmpty 32 = .ok (.putfield 46, 3) := by decide +kernel
theorem dMl_makeEmpty_35 : decode bMl_makeEmpty 35 = .ok (.aload_n 0, 1) := by decide +kernel
theorem dMl_makeEmpty_36 : decode bMl_makeEmpty 36 = .ok (.iconst 0, 1) := by decide +kernel
theorem dMl_makeEmpty_37 : decode bMl_makeEmpty 37 = .ok (.putfield 49, 3) := by decide +kernel
theorem dMl_makeEmpty_40 : decode bMl_makeEmpty 40 = .ok (.aload_n 0, 1) := by decide +kernel
theorem dMl_makeEmpty_41 : decode bMl_makeEmpty 41 = .ok (.iconst 0, 1) := by decide +kernel
theorem dMl_makeEmpty_42 : decode bMl_makeEmpty 42 = .ok (.putfield 52, 3) := by decide +kernel
theorem dMl_makeEmpty_45 : decode bMl_makeEmpty 45 = .ok (.aload_n 0, 1) := by decide +kernel
theorem dMl_makeEmpty_46 : decode bMl_makeEmpty 46 = .ok (.iconst 0, 1) := by decide +kernel
theorem dMl_makeEmpty_47 : decode bMl_makeEmpty 47 = .ok (.putfield 55, 3) := by decide +kernel
theorem dMl_makeEmpty_50 : decode bMl_makeEmpty 50 = .ok (.aload_n 0, 1) := by decide +kernel
theorem dMl_makeEmpty_51 : decode bMl_makeEmpty 51 = .ok (.getfield 15, 3) := by decide +kernel
theorem dMl_makeEmpty_54 : decode bMl_makeEmpty 54 = .ok (.invokestatic 58, 3) := by decide +kernel
theorem dMl_makeEmpty_57 : decode bMl_makeEmpty 57 = .ok (.aload_n 0, 1) := by decide +kernel
theorem dMl_makeEmpty_58 : decode bMl_makeEmpty 58 = .ok (.getfield 19, 3) := by decide +kernel
theorem dMl_makeEmpty_61 : decode bMl_makeEmpty 61 = .ok (.invokestatic 58, 3) := by decide +kernel
theorem dMl_makeEmpty_64 : decode bMl_makeEmpty 64 = .ok (.aload_n 0, 1) := by decide +kernel
theorem dMl_makeEmpty_65 : decode bMl_makeEmpty 65 = .ok (.getfield 22, 3) := by decide +kernel
theorem dMl_makeEmpty_68 : decode bMl_makeEmpty 68 = .ok (.invokestatic 58, 3) := by decide +kernel
theorem dMl_makeEmpty_71 : decode bMl_makeEmpty 71 = .ok (.aload_n 0, 1) := by decide +kernel
theorem dMl_makeEmpty_72 : decode bMl_makeEmpty 72 = .ok (.getfield 25, 3) := by decide +kernel
theorem dMl_makeEmpty_75 : decode bMl_makeEmpty 75 = .ok (.invokestatic 58, 3) := by decide +kernel
theorem dMl_makeEmpty_78 : decode bMl_makeEmpty 78 = .ok (.aload_n 0, 1) := by decide +kernel
theorem dMl_makeEmpty_79 : decode bMl_makeEmpty 79 = .ok (.getfield 28, 3) := by decide +kernel
theorem dMl_makeEmpty_82 : decode bMl_makeEmpty 82 = .ok (.invokestatic 58, 3) := by decide +kernel
theorem dMl_makeEmpty_85 : decode bMl_makeEmpty 85 = .ok (.return_, 1) := by decide +kernel
theorem dMl_lacksLine_0 : decode bMl_lacksLine 0 = .ok (.aload_n 0, 1) := by decide +kernel
theorem dMl_lacksLine_1 : decode bMl_lacksLine 1 = .ok (.getfield 31, 3) := by decide +kernel
theorem dMl_lacksLine_4 : decode bMl_lacksLine 4 = .ok (.ifCond .eq 47, 3) := by decide +kernel
theorem dMl_lacksLine_7 : decode bMl_lacksLine 7 = .ok (.aload_n 0, 1) := by decide +kernel
theorem dMl_lacksLine_8 : decode bMl_lacksLine 8 = .ok (.getfield 9, 3) := by decide +kernel
theorem dMl_lacksLine_11 : decode bMl_lacksLine 11 = .ok (.iconst (-1), 1) := by decide +kernel
theorem dMl_lacksLine_12 : decode bMl_lacksLine 12 = .ok (.if_icmp .eq 39, 3) := by decide +kernel
theorem dMl_lacksLine_15 : decode bMl_lacksLine 15 = .ok (.aload_n 0, 1) := by decide +kernel
theorem dMl_lacksLine_16 : decode bMl_lacksLine 16 = .ok (.getfield 40, 3) := by decide +kernel
theorem dMl_lacksLine_19 : decode bMl_lacksLine 19 = .ok (.ifCond .eq 32, 3) := by decide +kernel
theorem dMl_lacksLine_22 : decode bMl_lacksLine 22 = .ok (.aload_n 0, 1) := by decide +kernel
theorem dMl_lacksLine_23 : decode bMl_lacksLine 23 = .ok (.getfield 43, 3) := by decide +kernel
theorem dMl_lacksLine_26 : decode bMl_lacksLine 26 = .ok (.ifCond .eq 25, 3) := by decide +kernel
theorem dMl_lacksLine_29 : decode bMl_lacksLine 29 = .ok (.aload_n 0, 1) := by decide +kernel
theorem dMl_lacksLine_30 : decode bMl_lacksLine 30 = .ok (.getfield 55, 3) := by decide +kernel
theorem dMl_lacksLine_33 : decode bMl_lacksLine 33 = .ok (.ifCond .eq 18, 3) := by decide +kernel
theorem dMl_lacksLine_36 : decode bMl_lacksLine 36 = .ok (.aload_n 0, 1) := by decide +kernel
theorem dMl_lacksLine_37 : decode bMl_lacksLine 37 = .ok (.getfield 49, 3) := by decide +kernel
theorem dMl_lacksLine_40 : decode bMl_lacksLine 40 = .ok (.iconst 2, 1) := by decide +kernel
theorem dMl_lacksLine_41 : decode bMl_lacksLine 41 = .ok (.if_icmp .lt 10, 3) := by decide +kernel
theorem dMl_lacksLine_44 : decode bMl_lacksLine 44 = .ok (.aload_n 0, 1) := by decide +kernel
theorem dMl_lacksLine_45 : decode bMl_lacksLine 45 = .ok (.getfield 52, 3) := by decide +kernel
theorem dMl_lacksLine_48 : decode bMl_lacksLine 48 = .ok (.ifCond .ne 7, 3) := by decide +kernel
theorem dMl_lacksLine_51 : decode bMl_lacksLine 51 = .ok (.iconst 1, 1) := by decide +kernel
theorem dMl_lacksLine_52 : decode bMl_lacksLine 52 = .ok (.goto 4, 3) := by decide +kernel
theorem dMl_lacksLine_55 : decode bMl_lacksLine 55 = .ok (.iconst 0, 1) := by decide +kernel
theorem dMl_lacksLine_56 : decode bMl_lacksLine 56 = .ok (.ireturn, 1) := by decide +kernel
theorem dMl_priceAt_0 : decode bMl_priceAt 0 = .ok (.iload_n 1, 1) := by decide +kernel
theorem dMl_priceAt_1 : decode bMl_priceAt 1 = .ok (.ifCond .lt 20, 3) := by decide +kernel
theorem dMl_priceAt_4 : decode bMl_priceAt 4 = .ok (.aload_n 0, 1) := by decide +kernel
theorem dMl_priceAt_5 : decode bMl_priceAt 5 = .ok (.getfield 55, 3) := by decide +kernel
theorem dMl_priceAt_8 : decode bMl_priceAt 8 = .ok (.iconst 1, 1) := by decide +kernel
theorem dMl_priceAt_9 : decode bMl_priceAt 9 = .ok (.if_icmp .lt 12, 3) := by decide +kernel
theorem dMl_priceAt_12 : decode bMl_priceAt 12 = .ok (.aload_n 0, 1) := by decide +kernel
theorem dMl_priceAt_13 : decode bMl_priceAt 13 = .ok (.getfield 55, 3) := by decide +kernel
theorem dMl_priceAt_16 : decode bMl_priceAt 16 = .ok (.bipush 6, 2) := by decide +kernel
theorem dMl_priceAt_18 : decode bMl_priceAt 18 = .ok (.if_icmp .le 5, 3) := by decide +kernel
theorem dMl_priceAt_21 : decode bMl_priceAt 21 = .ok (.iconst 0, 1) := by decide +kernel
theorem dMl_priceAt_22 : decode bMl_priceAt 22 = .ok (.ireturn, 1) := by decide +kernel
theorem dMl_priceAt_23 : decode bMl_priceAt 23 = .ok (.aload_n 0, 1) := by decide +kernel
theorem dMl_priceAt_24 : decode bMl_priceAt 24 = .ok (.getfield 15, 3) := by decide +kernel
theorem dMl_priceAt_27 : decode bMl_priceAt 27 = .ok (.iload_n 1, 1) := by decide +kernel
theorem dMl_priceAt_28 : decode bMl_priceAt 28 = .ok (.aload_n 0, 1) := by decide +kernel
theorem dMl_priceAt_29 : decode bMl_priceAt 29 = .ok (.getfield 55, 3) := by decide +kernel
theorem dMl_priceAt_32 : decode bMl_priceAt 32 = .ok (.irem, 1) := by decide +kernel
theorem dMl_priceAt_33 : decode bMl_priceAt 33 = .ok (.iaload, 1) := by decide +kernel
theorem dMl_priceAt_34 : decode bMl_priceAt 34 = .ok (.ireturn, 1) := by decide +kernel
theorem dMl_hardOf_0 : decode bMl_hardOf 0 = .ok (.iload_n 1, 1) := by decide +kernel
theorem dMl_hardOf_1 : decode bMl_hardOf 1 = .ok (.ifCond .lt 17, 3) := by decide +kernel
theorem dMl_hardOf_4 : decode bMl_hardOf 4 = .ok (.iload_n 1, 1) := by decide +kernel
theorem dMl_hardOf_5 : decode bMl_hardOf 5 = .ok (.iconst 4, 1) := by decide +kernel
theorem dMl_hardOf_6 : decode bMl_hardOf 6 = .ok (.if_icmp .ge 12, 3) := by decide +kernel
theorem dMl_hardOf_9 : decode bMl_hardOf 9 = .ok (.aload_n 0, 1) := by decide +kernel
theorem dMl_hardOf_10 : decode bMl_hardOf 10 = .ok (.getfield 25, 3) := by decide +kernel
theorem dMl_hardOf_13 : decode bMl_hardOf 13 = .ok (.iload_n 1, 1) := by decide +kernel
theorem dMl_hardOf_14 : decode bMl_hardOf 14 = .ok (.iaload, 1) := by decide +kernel
theorem dMl_hardOf_15 : decode bMl_hardOf 15 = .ok (.goto 4, 3) := by decide +kernel
theorem dMl_hardOf_18 : decode bMl_hardOf 18 = .ok (.iconst 0, 1) := by decide +kernel
theorem dMl_hardOf_19 : decode bMl_hardOf 19 = .ok (.ireturn, 1) := by decide +kernel
theorem dMl_tonsOf_0 : decode bMl_tonsOf 0 = .ok (.iload_n 1, 1) := by decide +kernel
theorem dMl_tonsOf_1 : decode bMl_tonsOf 1 = .ok (.ifCond .lt 17, 3) := by decide +kernel
theorem dMl_tonsOf_4 : decode bMl_tonsOf 4 = .ok (.iload_n 1, 1) := by decide +kernel
theorem dMl_tonsOf_5 : decode bMl_tonsOf 5 = .ok (.iconst 4, 1) := by decide +kernel
theorem dMl_tonsOf_6 : decode bMl_tonsOf 6 = .ok (.if_icmp .ge 12, 3) := by decide +kernel
theorem dMl_tonsOf_9 : decode bMl_tonsOf 9 = .ok (.iload_n 2, 1) := by decide +kernel
theorem dMl_tonsOf_10 : decode bMl_tonsOf 10 = .ok (.ifCond .lt 8, 3) := by decide +kernel
theorem dMl_tonsOf_13 : decode bMl_tonsOf 13 = .ok (.iload_n 2, 1) := by decide +kernel
theorem dMl_tonsOf_14 : decode bMl_tonsOf 14 = .ok (.iconst 5, 1) := by decide +kernel
theorem dMl_tonsOf_15 : decode bMl_tonsOf 15 = .ok (.if_icmp .lt 5, 3) := by decide +kernel
theorem dMl_tonsOf_18 : decode bMl_tonsOf 18 = .ok (.iconst 0, 1) := by decide +kernel
theorem dMl_tonsOf_19 : decode bMl_tonsOf 19 = .ok (.ireturn, 1) := by decide +kernel
theorem dMl_tonsOf_20 : decode bMl_tonsOf 20 = .ok (.aload_n 0, 1) := by decide +kernel
theorem dMl_tonsOf_21 : decode bMl_tonsOf 21 = .ok (.getfield 28, 3) := by decide +kernel
theorem dMl_tonsOf_24 : decode bMl_tonsOf 24 = .ok (.iload_n 1, 1) := by decide +kernel
theorem dMl_tonsOf_25 : decode bMl_tonsOf 25 = .ok (.iconst 5, 1) := by decide +kernel
theorem dMl_tonsOf_26 : decode bMl_tonsOf 26 = .ok (.imul, 1) := by decide +kernel
theorem dMl_tonsOf_27 : decode bMl_tonsOf 27 = .ok (.iload_n 2, 1) := by decide +kernel
theorem dMl_tonsOf_28 : decode bMl_tonsOf 28 = .ok (.iadd, 1) := by decide +kernel
theorem dMl_tonsOf_29 : decode bMl_tonsOf 29 = .ok (.iaload, 1) := by decide +kernel
theorem dMl_tonsOf_30 : decode bMl_tonsOf 30 = .ok (.ireturn, 1) := by decide +kernel
