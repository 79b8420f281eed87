theorem dPl_init_0 : decode bPl_init 0 = .ok (.aload_n 0, 1) := by decide +kernel
theorem dPl_init_1 : decode bPl_init 1 = .ok (.invokespecial 3, 3) := by decide +kernel
theorem dPl_init_4 : decode bPl_init 4 = .ok (.aload_n 0, 1) := by decide +kernel
theorem dPl_init_5 : decode bPl_init 5 = .ok (.bipush 6, 2) := by decide +kernel
theorem dPl_init_7 : decode bPl_init 7 = .ok (.anewarray 9, 3) := by decide +kernel
theorem dPl_init_10 : decode bPl_init 10 = .ok (.putfield 11, 3) := by decide +kernel
theorem dPl_init_13 : decode bPl_init 13 = .ok (.aload_n 0, 1) := by decide +kernel
theorem dPl_init_14 : decode bPl_init 14 = .ok (.iconst 3, 1) := by decide +kernel
theorem dPl_init_15 : decode bPl_init 15 = .ok (.newarray .int, 2) := by decide +kernel
theorem dPl_init_17 : decode bPl_init 17 = .ok (.putfield 17, 3) := by decide +kernel
theorem dPl_init_20 : decode bPl_init 20 = .ok (.aload_n 0, 1) := by decide +kernel
theorem dPl_init_21 : decode bPl_init 21 = .ok (.iconst 5, 1) := by decide +kernel
theorem dPl_init_22 : decode bPl_init 22 = .ok (.newarray .int, 2) := by decide +kernel
theorem dPl_init_24 : decode bPl_init 24 = .ok (.putfield 21, 3) := by decide +kernel
theorem dPl_init_27 : decode bPl_init 27 = .ok (.aload_n 0, 1) := by decide +kernel
theorem dPl_init_28 : decode bPl_init 28 = .ok (.iconst 5, 1) := by decide +kernel
theorem dPl_init_29 : decode bPl_init 29 = .ok (.newarray .int, 2) := by decide +kernel
theorem dPl_init_31 : decode bPl_init 31 = .ok (.putfield 24, 3) := by decide +kernel
theorem dPl_init_34 : decode bPl_init 34 = .ok (.aload_n 0, 1) := by decide +kernel
theorem dPl_init_35 : decode bPl_init 35 = .ok (.iconst 5, 1) := by decide +kernel
theorem dPl_init_36 : decode bPl_init 36 = .ok (.newarray .int, 2) := by decide +kernel
theorem dPl_init_38 : decode bPl_init 38 = .ok (.putfield 27, 3) := by decide +kernel
theorem dPl_init_41 : decode bPl_init 41 = .ok (.aload_n 0, 1) := by decide +kernel
theorem dPl_init_42 : decode bPl_init 42 = .ok (.new 9, 3) := by decide +kernel
theorem dPl_init_45 : decode bPl_init 45 = .ok (.dup, 1) := by decide +kernel
theorem dPl_init_46 : decode bPl_init 46 = .ok (.invokespecial 30, 3) := by decide +kernel
theorem dPl_init_49 : decode bPl_init 49 = .ok (.putfield 31, 3) := by decide +kernel
theorem dPl_init_52 : decode bPl_init 52 = .ok (.aload_n 0, 1) := by decide +kernel
theorem dPl_init_53 : decode bPl_init 53 = .ok (.new 9, 3) := by decide +kernel
theorem dPl_init_56 : decode bPl_init 56 = .ok (.dup, 1) := by decide +kernel
theorem dPl_init_57 : decode bPl_init 57 = .ok (.invokespecial 30, 3) := by decide +kernel
theorem dPl_init_60 : decode bPl_init 60 = .ok (.putfield 35, 3) := by decide +kernel
theorem dPl_init_63 : decode bPl_init 63 = .ok (.iconst 0, 1) := by decide +kernel
theorem dPl_init_64 : decode bPl_init 64 = .ok (.istore_n 1, 1) := by decide +kernel
theorem dPl_init_65 : decode bPl_init 65 = .ok (.iload_n 1, 1) := by decide +kernel
theorem dPl_init_66 : decode bPl_init 66 = .ok (.iconst 5, 1) := by decide +kernel
theorem dPl_init_67 : decode bPl_init 67 = .ok (.if_icmp .gt 22, 3) := by decide +kernel
theorem dPl_init_70 : decode bPl_init 70 = .ok (.aload_n 0, 1) := by decide +kernel
theorem dPl_init_71 : decode bPl_init 71 = .ok (.getfield 11, 3) := by decide +kernel
theorem dPl_init_74 : decode bPl_init 74 = .ok (.iload_n 1, 1) := by decide +kernel
theorem dPl_init_75 : decode bPl_init 75 = .ok (.new 9, 3) := by decide +kernel
theorem dPl_init_78 : decode bPl_init 78 = .ok (.dup, 1) := by decide +kernel
theorem dPl_init_79 : decode bPl_init 79 = .ok (.invokespecial 30, 3) := by decide +kernel
theorem dPl_init_82 : decode bPl_init 82 = .ok (.aastore, 1) := by decide +kernel
theorem dPl_init_83 : decode bPl_init 83 = .ok (.iinc 1 1, 3) := by decide +kernel
theorem dPl_init_86 : decode bPl_init 86 = .ok (.goto (-21), 3) := by decide +kernel
theorem dPl_init_89 : decode bPl_init 89 = .ok (.return_, 1) := by decide +kernel
theorem dPl_drop_0 : decode bPl_drop 0 = .ok (.aload_n 0, 1) := by decide +kernel
theorem dPl_drop_1 : decode bPl_drop 1 = .ok (.iconst 0, 1) := by decide +kernel
theorem dPl_drop_2 : decode bPl_drop 2 = .ok (.putfield 38, 3) := by decide +kernel
theorem dPl_drop_5 : decode bPl_drop 5 = .ok (.return_, 1) := by decide +kernel
theorem dPl_keptRate_0 : decode bPl_keptRate 0 = .ok (.iload_n 1, 1) := by decide +kernel
theorem dPl_keptRate_1 : decode bPl_keptRate 1 = .ok (.ifCond .lt 25, 3) := by decide +kernel
theorem dPl_keptRate_4 : decode bPl_keptRate 4 = .ok (.iload_n 1, 1) := by decide +kernel
theorem dPl_keptRate_5 : decode bPl_keptRate 5 = .ok (.aload_n 0, 1) := by decide +kernel
theorem dPl_keptRate_6 : decode bPl_keptRate 6 = .ok (.getfield 38, 3) := by decide +kernel
theorem dPl_keptRate_9 : decode bPl_keptRate 9 = .ok (.if_icmp .ge 17, 3) := by decide +kernel
theorem dPl_keptRate_12 : decode bPl_keptRate 12 = .ok (.iload_n 1, 1) := by decide +kernel
theorem dPl_keptRate_13 : decode bPl_keptRate 13 = .ok (.iconst 5, 1) := by decide +kernel
theorem dPl_keptRate_14 : decode bPl_keptRate 14 = .ok (.if_icmp .ge 12, 3) := by decide +kernel
theorem dPl_keptRate_17 : decode bPl_keptRate 17 = .ok (.aload_n 0, 1) := by decide +kernel
theorem dPl_keptRate_18 : decode bPl_keptRate 18 = .ok (.getfield 27, 3) := by decide +kernel
theorem dPl_keptRate_21 : decode bPl_keptRate 21 = .ok (.iload_n 1, 1) := by decide +kernel
theorem dPl_keptRate_22 : decode bPl_keptRate 22 = .ok (.iaload, 1) := by decide +kernel
theorem dPl_keptRate_23 : decode bPl_keptRate 23 = .ok (.goto 4, 3) := by decide +kernel
theorem dPl_keptRate_26 : decode bPl_keptRate 26 = .ok (.iconst (-1), 1) := by decide +kernel
theorem dPl_keptRate_27 : decode bPl_keptRate 27 = .ok (.ireturn, 1) := by decide +kernel
theorem dPl_findCheapest_0 : decode bPl_findCheapest 0 = .ok (.aload_n 0, 1) := by decide +kernel
theorem dPl_findCheapest_1 : decode bPl_findCheapest 1 = .ok (.getfield 11, 3) := by decide +kernel
theorem dPl_findCheapest_4 : decode bPl_findCheapest 4 = .ok (.iconst 0, 1) := by decide +kernel
theorem dPl_findCheapest_5 : decode bPl_findCheapest 5 = .ok (.aaload, 1) := by decide +kernel
theorem dPl_findCheapest_6 : decode bPl_findCheapest 6 = .ok (.astore 5, 2) := by decide +kernel
theorem dPl_findCheapest_8 : decode bPl_findCheapest 8 = .ok (.aload 5, 2) := by decide +kernel
theorem dPl_findCheapest_10 : decode bPl_findCheapest 10 = .ok (.ifnonnull 5, 3) := by decide +kernel
theorem dPl_findCheapest_13 : decode bPl_findCheapest 13 = .ok (.iconst (-1), 1) := by decide +kernel
theorem dPl_findCheapest_14 : decode bPl_findCheapest 14 = .ok (.ireturn, 1) := by decide +kernel
theorem dPl_findCheapest_15 : decode bPl_findCheapest 15 = .ok (.aload 5, 2) := by decide +kernel
theorem dPl_findCheapest_17 : decode bPl_findCheapest 17 = .ok (.aload_n 2, 1) := by decide +kernel
theorem dPl_findCheapest_18 : decode bPl_findCheapest 18 = .ok (.invokevirtual 42, 3) := by decide +kernel
theorem dPl_findCheapest_21 : decode bPl_findCheapest 21 = .ok (.aload_n 3, 1) := by decide +kernel
theorem dPl_findCheapest_22 : decode bPl_findCheapest 22 = .ok (.aload_n 0, 1) := by decide +kernel
theorem dPl_findCheapest_23 : decode bPl_findCheapest 23 = .ok (.getfield 17, 3) := by decide +kernel
theorem dPl_findCheapest_26 : decode bPl_findCheapest 26 = .ok (.invokestatic 46, 3) := by decide +kernel
theorem dPl_findCheapest_29 : decode bPl_findCheapest 29 = .ok (.aload_n 0, 1) := by decide +kernel
theorem dPl_findCheapest_30 : decode bPl_findCheapest 30 = .ok (.iconst 0, 1) := by decide +kernel
theorem dPl_findCheapest_31 : decode bPl_findCheapest 31 = .ok (.putfield 50, 3) := by decide +kernel
theorem dPl_findCheapest_34 : decode bPl_findCheapest 34 = .ok (.aload_n 0, 1) := by decide +kernel
theorem dPl_findCheapest_35 : decode bPl_findCheapest 35 = .ok (.aload_n 1, 1) := by decide +kernel
theorem dPl_findCheapest_36 : decode bPl_findCheapest 36 = .ok (.iconst 0, 1) := by decide +kernel
theorem dPl_findCheapest_37 : decode bPl_findCheapest 37 = .ok (.iload 4, 2) := by decide +kernel
theorem dPl_findCheapest_39 : decode bPl_findCheapest 39 = .ok (.invokestatic 54, 3) := by decide +kernel
theorem dPl_findCheapest_42 : decode bPl_findCheapest 42 = .ok (.aload_n 0, 1) := by decide +kernel
theorem dPl_findCheapest_43 : decode bPl_findCheapest 43 = .ok (.getfield 50, 3) := by decide +kernel
theorem dPl_findCheapest_46 : decode bPl_findCheapest 46 = .ok (.ifCond .ne 5, 3) := by decide +kernel
theorem dPl_findCheapest_49 : decode bPl_findCheapest 49 = .ok (.iconst (-1), 1) := by decide +kernel
theorem dPl_findCheapest_50 : decode bPl_findCheapest 50 = .ok (.ireturn, 1) := by decide +kernel
theorem dPl_findCheapest_51 : decode bPl_findCheapest 51 = .ok (.aload_n 0, 1) := by decide +kernel
theorem dPl_findCheapest_52 : decode bPl_findCheapest 52 = .ok (.getfield 24, 3) := by decide +kernel
theorem dPl_findCheapest_55 : decode bPl_findCheapest 55 = .ok (.aload_n 0, 1) := by decide +kernel
theorem dPl_findCheapest_56 : decode bPl_findCheapest 56 = .ok (.getfield 27, 3) := by decide +kernel
theorem dPl_findCheapest_59 : decode bPl_findCheapest 59 = .ok (.invokestatic 46, 3) := by decide +kernel
theorem dPl_findCheapest_62 : decode bPl_findCheapest 62 = .ok (.aload_n 0, 1) := by decide +kernel
theorem dPl_findCheapest_63 : decode bPl_findCheapest 63 = .ok (.iload 4, 2) := by decide +kernel
theorem dPl_findCheapest_65 : decode bPl_findCheapest 65 = .ok (.putfield 38, 3) := by decide +kernel
theorem dPl_findCheapest_68 : decode bPl_findCheapest 68 = .ok (.aload_n 0, 1) := by decide +kernel
theorem dPl_findCheapest_69 : decode bPl_findCheapest 69 = .ok (.getfield 58, 3) := by decide +kernel
theorem dPl_findCheapest_72 : decode bPl_findCheapest 72 = .ok (.aload_n 2, 1) := by decide +kernel
theorem dPl_findCheapest_73 : decode bPl_findCheapest 73 = .ok (.getfield 61, 3) := by decide +kernel
theorem dPl_findCheapest_76 : decode bPl_findCheapest 76 = .ok (.isub, 1) := by decide +kernel
theorem dPl_findCheapest_77 : decode bPl_findCheapest 77 = .ok (.ireturn, 1) := by decide +kernel
theorem dPl_search_0 : decode bPl_search 0 = .ok (.iload_n 2, 1) := by decide +kernel
theorem dPl_search_1 : decode bPl_search 1 = .ok (.ifCond .lt 8, 3) := by decide +kernel
theorem dPl_search_4 : decode bPl_search 4 = .ok (.iload_n 2, 1) := by decide +kernel
theorem dPl_search_5 : decode bPl_search 5 = .ok (.iconst 5, 1) := by decide +kernel
theorem dPl_search_6 : decode bPl_search 6 = .ok (.if_icmp .le 4, 3) := by decide +kernel
theorem dPl_search_9 : decode bPl_search 9 = .ok (.return_, 1) := by decide +kernel
theorem dPl_search_10 : decode bPl_search 10 = .ok (.aload_n 0, 1) := by decide +kernel
theorem dPl_search_11 : decode bPl_search 11 = .ok (.getfield 11, 3) := by decide +kernel
theorem dPl_search_14 : decode bPl_search 14 = .ok (.iload_n 2, 1) := by decide +kernel
theorem dPl_search_15 : decode bPl_search 15 = .ok (.aaload, 1) := by decide +kernel
theorem dPl_search_16 : decode bPl_search 16 = .ok (.astore 4, 2) := by decide +kernel
theorem dPl_search_18 : decode bPl_search 18 = .ok (.aload 4, 2) := by decide +kernel
theorem dPl_search_20 : decode bPl_search 20 = .ok (.ifnonnull 4, 3) := by decide +kernel
theorem dPl_search_23 : decode bPl_search 23 = .ok (.return_, 1) := by decide +kernel
theorem dPl_search_24 : decode bPl_search 24 = .ok (.iload_n 2, 1) := by decide +kernel
theorem dPl_search_25 : decode bPl_search 25 = .ok (.iload_n 3, 1) := by decide +kernel
theorem dPl_search_26 : decode bPl_search 26 = .ok (.if_icmp .ge 8, 3) := by decide +kernel
theorem dPl_search_29 : decode bPl_search 29 = .ok (.iload_n 2, 1) := by decide +kernel
theorem dPl_search_30 : decode bPl_search 30 = .ok (.iconst 5, 1) := by decide +kernel
theorem dPl_search_31 : decode bPl_search 31 = .ok (.if_icmp .lt 13, 3) := by decide +kernel
theorem dPl_search_34 : decode bPl_search 34 = .ok (.aload_n 0, 1) := by decide +kernel
theorem dPl_search_35 : decode bPl_search 35 = .ok (.aload 4, 2) := by decide +kernel
theorem dPl_search_37 : decode bPl_search 37 = .ok (.getfield 61, 3) := by decide +kernel
theorem dPl_search_40 : decode bPl_search 40 = .ok (.invokevirtual 64, 3) := by decide +kernel
theorem dPl_search_43 : decode bPl_search 43 = .ok (.return_, 1) := by decide +kernel
theorem dPl_search_44 : decode bPl_search 44 = .ok (.aload_n 0, 1) := by decide +kernel
theorem dPl_search_45 : decode bPl_search 45 = .ok (.getfield 11, 3) := by decide +kernel
theorem dPl_search_48 : decode bPl_search 48 = .ok (.iload_n 2, 1) := by decide +kernel
theorem dPl_search_49 : decode bPl_search 49 = .ok (.iconst 1, 1) := by decide +kernel
theorem dPl_search_50 : decode bPl_search 50 = .ok (.iadd, 1) := by decide +kernel
theorem dPl_search_51 : decode bPl_search 51 = .ok (.aaload, 1) := by decide +kernel
theorem dPl_search_52 : decode bPl_search 52 = .ok (.astore 5, 2) := by decide +kernel
theorem dPl_search_54 : decode bPl_search 54 = .ok (.iconst 0, 1) := by decide +kernel
theorem dPl_search_55 : decode bPl_search 55 = .ok (.istore 6, 2) := by decide +kernel
theorem dPl_search_57 : decode bPl_search 57 = .ok (.iload 6, 2) := by decide +kernel
theorem dPl_search_59 : decode bPl_search 59 = .ok (.iconst 3, 1) := by decide +kernel
theorem dPl_search_60 : decode bPl_search 60 = .ok (.if_icmp .gt 84, 3) := by decide +kernel
theorem dPl_search_63 : decode bPl_search 63 = .ok (.aload 5, 2) := by decide +kernel
theorem dPl_search_65 : decode bPl_search 65 = .ok (.ifnull 79, 3) := by decide +kernel
theorem dPl_search_68 : decode bPl_search 68 = .ok (.aload_n 0, 1) := by decide +kernel
theorem dPl_search_69 : decode bPl_search 69 = .ok (.getfield 17, 3) := by decide +kernel
theorem dPl_search_72 : decode bPl_search 72 = .ok (.iconst 0, 1) := by decide +kernel
theorem dPl_search_73 : decode bPl_search 73 = .ok (.iload 6, 2) := by decide +kernel
theorem dPl_search_75 : decode bPl_search 75 = .ok (.iastore, 1) := by decide +kernel
theorem dPl_search_76 : decode bPl_search 76 = .ok (.aload 5, 2) := by decide +kernel
theorem dPl_search_78 : decode bPl_search 78 = .ok (.aload 4, 2) := by decide +kernel
theorem dPl_search_80 : decode bPl_search 80 = .ok (.invokevirtual 42, 3) := by decide +kernel
theorem dPl_search_83 : decode bPl_search 83 = .ok (.aload 5, 2) := by decide +kernel
theorem dPl_search_85 : decode bPl_search 85 = .ok (.aload_n 1, 1) := by decide +kernel
theorem dPl_search_86 : decode bPl_search 86 = .ok (.aload_n 0, 1) := by decide +kernel
theorem dPl_search_87 : decode bPl_search 87 = .ok (.getfield 17, 3) := by decide +kernel
theorem dPl_search_90 : decode bPl_search 90 = .ok (.iconst 0, 1) := by decide +kernel
theorem dPl_search_91 : decode bPl_search 91 = .ok (.invokevirtual 68, 3) := by decide +kernel
theorem dPl_search_94 : decode bPl_search 94 = .ok (.aload 5, 2) := by decide +kernel
theorem dPl_search_96 : decode bPl_search 96 = .ok (.invokevirtual 72, 3) := by decide +kernel
theorem dPl_search_99 : decode bPl_search 99 = .ok (.ifCond .eq 39, 3) := by decide +kernel
theorem dPl_search_102 : decode bPl_search 102 = .ok (.aload_n 0, 1) := by decide +kernel
theorem dPl_search_103 : decode bPl_search 103 = .ok (.getfield 50, 3) := by decide +kernel
theorem dPl_search_106 : decode bPl_search 106 = .ok (.ifCond .eq 15, 3) := by decide +kernel
theorem dPl_search_109 : decode bPl_search 109 = .ok (.aload 5, 2) := by decide +kernel
theorem dPl_search_111 : decode bPl_search 111 = .ok (.getfield 61, 3) := by decide +kernel
theorem dPl_search_114 : decode bPl_search 114 = .ok (.aload_n 0, 1) := by decide +kernel
theorem dPl_search_115 : decode bPl_search 115 = .ok (.getfield 58, 3) := by decide +kernel
theorem dPl_search_118 : decode bPl_search 118 = .ok (.if_icmp .ge 20, 3) := by decide +kernel
theorem dPl_search_121 : decode bPl_search 121 = .ok (.aload_n 0, 1) := by decide +kernel
theorem dPl_search_122 : decode bPl_search 122 = .ok (.getfield 21, 3) := by decide +kernel
theorem dPl_search_125 : decode bPl_search 125 = .ok (.iload_n 2, 1) := by decide +kernel
theorem dPl_search_126 : decode bPl_search 126 = .ok (.iload 6, 2) := by decide +kernel
theorem dPl_search_128 : decode bPl_search 128 = .ok (.iastore, 1) := by decide +kernel
theorem dPl_search_129 : decode bPl_search 129 = .ok (.aload_n 0, 1) := by decide +kernel
theorem dPl_search_130 : decode bPl_search 130 = .ok (.aload_n 1, 1) := by decide +kernel
theorem dPl_search_131 : decode bPl_search 131 = .ok (.iload_n 2, 1) := by decide +kernel
theorem dPl_search_132 : decode bPl_search 132 = .ok (.iconst 1, 1) := by decide +kernel
theorem dPl_search_133 : decode bPl_search 133 = .ok (.iadd, 1) := by decide +kernel
theorem dPl_search_134 : decode bPl_search 134 = .ok (.iload_n 3, 1) := by decide +kernel
theorem dPl_search_135 : decode bPl_search 135 = .ok (.invokestatic 54, 3) := by decide +kernel
theorem dPl_search_138 : decode bPl_search 138 = .ok (.iinc 6 1, 3) := by decide +kernel
theorem dPl_search_141 : decode bPl_search 141 = .ok (.goto (-84), 3) := by decide +kernel
theorem dPl_search_144 : decode bPl_search 144 = .ok (.return_, 1) := by decide +kernel
theorem dPl_keepBest_0 : decode bPl_keepBest 0 = .ok (.aload_n 0, 1) := by decide +kernel
theorem dPl_keepBest_1 : decode bPl_keepBest 1 = .ok (.getfield 21, 3) := by decide +kernel
theorem dPl_keepBest_4 : decode bPl_keepBest 4 = .ok (.aload_n 0, 1) := by decide +kernel
theorem dPl_keepBest_5 : decode bPl_keepBest 5 = .ok (.getfield 24, 3) := by decide +kernel
theorem dPl_keepBest_8 : decode bPl_keepBest 8 = .ok (.invokestatic 46, 3) := by decide +kernel
theorem dPl_keepBest_11 : decode bPl_keepBest 11 = .ok (.aload_n 0, 1) := by decide +kernel
theorem dPl_keepBest_12 : decode bPl_keepBest 12 = .ok (.iload_n 1, 1) := by decide +kernel
theorem dPl_keepBest_13 : decode bPl_keepBest 13 = .ok (.putfield 58, 3) := by decide +kernel
theorem dPl_keepBest_16 : decode bPl_keepBest 16 = .ok (.aload_n 0, 1) := by decide +kernel
theorem dPl_keepBest_17 : decode bPl_keepBest 17 = .ok (.iconst 1, 1) := by decide +kernel
theorem dPl_keepBest_18 : decode bPl_keepBest 18 = .ok (.putfield 50, 3) := by decide +kernel
theorem dPl_keepBest_21 : decode bPl_keepBest 21 = .ok (.return_, 1) := by decide +kernel
theorem dPl_keepRule_0 : decode bPl_keepRule 0 = .ok (.aload_n 0, 1) := by decide +kernel
theorem dPl_keepRule_1 : decode bPl_keepRule 1 = .ok (.getfield 35, 3) := by decide +kernel
theorem dPl_keepRule_4 : decode bPl_keepRule 4 = .ok (.aload_n 2, 1) := by decide +kernel
theorem dPl_keepRule_5 : decode bPl_keepRule 5 = .ok (.invokevirtual 42, 3) := by decide +kernel
theorem dPl_keepRule_8 : decode bPl_keepRule 8 = .ok (.aload_n 3, 1) := by decide +kernel
theorem dPl_keepRule_9 : decode bPl_keepRule 9 = .ok (.aload_n 0, 1) := by decide +kernel
theorem dPl_keepRule_10 : decode bPl_keepRule 10 = .ok (.getfield 17, 3) := by decide +kernel
theorem dPl_keepRule_13 : decode bPl_keepRule 13 = .ok (.invokestatic 46, 3) := by decide +kernel
theorem dPl_keepRule_16 : decode bPl_keepRule 16 = .ok (.iconst 0, 1) := by decide +kernel
theorem dPl_keepRule_17 : decode bPl_keepRule 17 = .ok (.istore 5, 2) := by decide +kernel
theorem dPl_keepRule_19 : decode bPl_keepRule 19 = .ok (.iload 5, 2) := by decide +kernel
theorem dPl_keepRule_21 : decode bPl_keepRule 21 = .ok (.iload 4, 2) := by decide +kernel
theorem dPl_keepRule_23 : decode bPl_keepRule 23 = .ok (.if_icmp .ge 39, 3) := by decide +kernel
theorem dPl_keepRule_26 : decode bPl_keepRule 26 = .ok (.iload 5, 2) := by decide +kernel
theorem dPl_keepRule_28 : decode bPl_keepRule 28 = .ok (.iconst 5, 1) := by decide +kernel
theorem dPl_keepRule_29 : decode bPl_keepRule 29 = .ok (.if_icmp .ge 33, 3) := by decide +kernel
theorem dPl_keepRule_32 : decode bPl_keepRule 32 = .ok (.aload_n 0, 1) := by decide +kernel
theorem dPl_keepRule_33 : decode bPl_keepRule 33 = .ok (.getfield 17, 3) := by decide +kernel
theorem dPl_keepRule_36 : decode bPl_keepRule 36 = .ok (.iconst 0, 1) := by decide +kernel
theorem dPl_keepRule_37 : decode bPl_keepRule 37 = .ok (.aload_n 0, 1) := by decide +kernel
theorem dPl_keepRule_38 : decode bPl_keepRule 38 = .ok (.aload_n 1, 1) := by decide +kernel
theorem dPl_keepRule_39 : decode bPl_keepRule 39 = .ok (.invokevirtual 76, 3) := by decide +kernel
theorem dPl_keepRule_42 : decode bPl_keepRule 42 = .ok (.iastore, 1) := by decide +kernel
theorem dPl_keepRule_43 : decode bPl_keepRule 43 = .ok (.aload_n 0, 1) := by decide +kernel
theorem dPl_keepRule_44 : decode bPl_keepRule 44 = .ok (.getfield 35, 3) := by decide +kernel
theorem dPl_keepRule_47 : decode bPl_keepRule 47 = .ok (.aload_n 1, 1) := by decide +kernel
theorem dPl_keepRule_48 : decode bPl_keepRule 48 = .ok (.aload_n 0, 1) := by decide +kernel
theorem dPl_keepRule_49 : decode bPl_keepRule 49 = .ok (.getfield 17, 3) := by decide +kernel
theorem dPl_keepRule_52 : decode bPl_keepRule 52 = .ok (.iconst 0, 1) := by decide +kernel
theorem dPl_keepRule_53 : decode bPl_keepRule 53 = .ok (.invokevirtual 68, 3) := by decide +kernel
theorem dPl_keepRule_56 : decode bPl_keepRule 56 = .ok (.iinc 5 1, 3) := by decide +kernel
theorem dPl_keepRule_59 : decode bPl_keepRule 59 = .ok (.goto (-40), 3) := by decide +kernel
theorem dPl_keepRule_62 : decode bPl_keepRule 62 = .ok (.return_, 1) := by decide +kernel
theorem dPl_leastRate_0 : decode bPl_leastRate 0 = .ok (.iconst 0, 1) := by decide +kernel
theorem dPl_leastRate_1 : decode bPl_leastRate 1 = .ok (.istore_n 2, 1) := by decide +kernel
theorem dPl_leastRate_2 : decode bPl_leastRate 2 = .ok (.iload_n 2, 1) := by decide +kernel
theorem dPl_leastRate_3 : decode bPl_leastRate 3 = .ok (.iconst 3, 1) := by decide +kernel
theorem dPl_leastRate_4 : decode bPl_leastRate 4 = .ok (.if_icmp .gt 52, 3) := by decide +kernel
theorem dPl_leastRate_7 : decode bPl_leastRate 7 = .ok (.aload_n 0, 1) := by decide +kernel
theorem dPl_leastRate_8 : decode bPl_leastRate 8 = .ok (.getfield 17, 3) := by decide +kernel
theorem dPl_leastRate_11 : decode bPl_leastRate 11 = .ok (.iconst 0, 1) := by decide +kernel
theorem dPl_leastRate_12 : decode bPl_leastRate 12 = .ok (.iload_n 2, 1) := by decide +kernel
theorem dPl_leastRate_13 : decode bPl_leastRate 13 = .ok (.iastore, 1) := by decide +kernel
theorem dPl_leastRate_14 : decode bPl_leastRate 14 = .ok (.aload_n 0, 1) := by decide +kernel
theorem dPl_leastRate_15 : decode bPl_leastRate 15 = .ok (.getfield 31, 3) := by decide +kernel
theorem dPl_leastRate_18 : decode bPl_leastRate 18 = .ok (.aload_n 0, 1) := by decide +kernel
theorem dPl_leastRate_19 : decode bPl_leastRate 19 = .ok (.getfield 35, 3) := by decide +kernel
theorem dPl_leastRate_22 : decode bPl_leastRate 22 = .ok (.invokevirtual 42, 3) := by decide +kernel
theorem dPl_leastRate_25 : decode bPl_leastRate 25 = .ok (.aload_n 0, 1) := by decide +kernel
theorem dPl_leastRate_26 : decode bPl_leastRate 26 = .ok (.getfield 31, 3) := by decide +kernel
theorem dPl_leastRate_29 : decode bPl_leastRate 29 = .ok (.aload_n 1, 1) := by decide +kernel
theorem dPl_leastRate_30 : decode bPl_leastRate 30 = .ok (.aload_n 0, 1) := by decide +kernel
theorem dPl_leastRate_31 : decode bPl_leastRate 31 = .ok (.getfield 17, 3) := by decide +kernel
theorem dPl_leastRate_34 : decode bPl_leastRate 34 = .ok (.iconst 0, 1) := by decide +kernel
theorem dPl_leastRate_35 : decode bPl_leastRate 35 = .ok (.invokevirtual 68, 3) := by decide +kernel
theorem dPl_leastRate_38 : decode bPl_leastRate 38 = .ok (.aload_n 0, 1) := by decide +kernel
theorem dPl_leastRate_39 : decode bPl_leastRate 39 = .ok (.getfield 31, 3) := by decide +kernel
theorem dPl_leastRate_42 : decode bPl_leastRate 42 = .ok (.invokevirtual 72, 3) := by decide +kernel
theorem dPl_leastRate_45 : decode bPl_leastRate 45 = .ok (.ifCond .eq 5, 3) := by decide +kernel
theorem dPl_leastRate_48 : decode bPl_leastRate 48 = .ok (.iload_n 2, 1) := by decide +kernel
theorem dPl_leastRate_49 : decode bPl_leastRate 49 = .ok (.ireturn, 1) := by decide +kernel
theorem dPl_leastRate_50 : decode bPl_leastRate 50 = .ok (.iinc 2 1, 3) := by decide +kernel
theorem dPl_leastRate_53 : decode bPl_leastRate 53 = .ok (.goto (-51), 3) := by decide +kernel
theorem dPl_leastRate_56 : decode bPl_leastRate 56 = .ok (.iconst 0, 1) := by decide +kernel
theorem dPl_leastRate_57 : decode bPl_leastRate 57 = .ok (.ireturn, 1) := by decide +kernel
theorem dSi_init_0 : decode bSi_init 0 = .ok (.aload_n 0, 1) := by decide +kernel
theorem dSi_init_1 : decode bSi_init 1 = .ok (.invokespecial 3, 3) := by decide +kernel
theorem dSi_init_4 : decode bSi_init 4 = .ok (.aload_n 0, 1) := by decide +kernel
theorem dSi_init_5 : decode bSi_init 5 = .ok (.bipush 24, 2) := by decide +kernel
theorem dSi_init_7 : decode bSi_init 7 = .ok (.newarray .int, 2) := by decide +kernel
theorem dSi_init_9 : decode bSi_init 9 = .ok (.putfield 11, 3) := by decide +kernel
theorem dSi_init_12 : decode bSi_init 12 = .ok (.aload_n 0, 1) := by decide +kernel
theorem dSi_init_13 : decode bSi_init 13 = .ok (.bipush 24, 2) := by decide +kernel
theorem dSi_init_15 : decode bSi_init 15 = .ok (.newarray .int, 2) := by decide +kernel
theorem dSi_init_17 : decode bSi_init 17 = .ok (.putfield 15, 3) := by decide +kernel
theorem dSi_init_20 : decode bSi_init 20 = .ok (.aload_n 0, 1) := by decide +kernel
theorem dSi_init_21 : decode bSi_init 21 = .ok (.bipush 24, 2) := by decide +kernel
theorem dSi_init_23 : decode bSi_init 23 = .ok (.newarray .int, 2) := by decide +kernel
theorem dSi_init_25 : decode bSi_init 25 = .ok (.putfield 18, 3) := by decide +kernel
theorem dSi_init_28 : decode bSi_init 28 = .ok (.aload_n 0, 1) := by decide +kernel
theorem dSi_init_29 : decode bSi_init 29 = .ok (.bipush 24, 2) := by decide +kernel
theorem dSi_init_31 : decode bSi_init 31 = .ok (.newarray .int, 2) := by decide +kernel
theorem dSi_init_33 : decode bSi_init 33 = .ok (.putfield 21, 3) := by decide +kernel
theorem dSi_init_36 : decode bSi_init 36 = .ok (.aload_n 0, 1) := by decide +kernel
theorem dSi_init_37 : decode bSi_init 37 = .ok (.bipush 100, 2) := by decide +kernel
theorem dSi_init_39 : decode bSi_init 39 = .ok (.newarray .int, 2) := by decide +kernel
theorem dSi_init_41 : decode bSi_init 41 = .ok (.putfield 24, 3) := by decide +kernel
theorem dSi_init_44 : decode bSi_init 44 = .ok (.return_, 1) := by decide +kernel
theorem dSi_isFilled_0 : decode bSi_isFilled 0 = .ok (.aload_n 0, 1) := by decide +kernel
theorem dSi_isFilled_1 : decode bSi_isFilled 1 = .ok (.getfield 27, 3) := by decide +kernel
theorem dSi_isFilled_4 : decode bSi_isFilled 4 = .ok (.bipush 24, 2) := by decide +kernel
theorem dSi_isFilled_6 : decode bSi_isFilled 6 = .ok (.if_icmp .lt 7, 3) := by decide +kernel
theorem dSi_isFilled_9 : decode bSi_isFilled 9 = .ok (.iconst 1, 1) := by decide +kernel
theorem dSi_isFilled_10 : decode bSi_isFilled 10 = .ok (.goto 4, 3) := by decide +kernel
theorem dSi_isFilled_13 : decode bSi_isFilled 13 = .ok (.iconst 0, 1) := by decide +kernel
theorem dSi_isFilled_14 : decode bSi_isFilled 14 = .ok (.ireturn, 1) := by decide +kernel
theorem dSi_note_0 : decode bSi_note 0 = .ok (.aload_n 0, 1) := by decide +kernel
theorem dSi_note_1 : decode bSi_note 1 = .ok (.getfield 27, 3) := by decide +kernel
theorem dSi_note_4 : decode bSi_note 4 = .ok (.ifCond .lt 68, 3) := by decide +kernel
theorem dSi_note_7 : decode bSi_note 7 = .ok (.aload_n 0, 1) := by decide +kernel
theorem dSi_note_8 : decode bSi_note 8 = .ok (.getfield 27, 3) := by decide +kernel
theorem dSi_note_11 : decode bSi_note 11 = .ok (.bipush 24, 2) := by decide +kernel
theorem dSi_note_13 : decode bSi_note 13 = .ok (.if_icmp .ge 59, 3) := by decide +kernel
theorem dSi_note_16 : decode bSi_note 16 = .ok (.aload_n 0, 1) := by decide +kernel
theorem dSi_note_17 : decode bSi_note 17 = .ok (.getfield 11, 3) := by decide +kernel
theorem dSi_note_20 : decode bSi_note 20 = .ok (.aload_n 0, 1) := by decide +kernel
theorem dSi_note_21 : decode bSi_note 21 = .ok (.getfield 27, 3) := by decide +kernel
theorem dSi_note_24 : decode bSi_note 24 = .ok (.iload_n 1, 1) := by decide +kernel
theorem dSi_note_25 : decode bSi_note 25 = .ok (.iastore, 1) := by decide +kernel
theorem dSi_note_26 : decode bSi_note 26 = .ok (.aload_n 0, 1) := by decide +kernel
theorem dSi_note_27 : decode bSi_note 27 = .ok (.getfield 15, 3) := by decide +kernel
theorem dSi_note_30 : decode bSi_note 30 = .ok (.aload_n 0, 1) := by decide +kernel
theorem dSi_note_31 : decode bSi_note 31 = .ok (.getfield 27, 3) := by decide +kernel
theorem dSi_note_34 : decode bSi_note 34 = .ok (.iload_n 2, 1) := by decide +kernel
theorem dSi_note_35 : decode bSi_note 35 = .ok (.iastore, 1) := by decide +kernel
theorem dSi_note_36 : decode bSi_note 36 = .ok (.aload_n 0, 1) := by decide +kernel
theorem dSi_note_37 : decode bSi_note 37 = .ok (.getfield 18, 3) := by decide +kernel
theorem dSi_note_40 : decode bSi_note 40 = .ok (.aload_n 0, 1) := by decide +kernel
theorem dSi_note_41 : decode bSi_note 41 = .ok (.getfield 27, 3) := by decide +kernel
theorem dSi_note_44 : decode bSi_note 44 = .ok (.iload_n 3, 1) := by decide +kernel
theorem dSi_note_45 : decode bSi_note 45 = .ok (.iastore, 1) := by decide +kernel
theorem dSi_note_46 : decode bSi_note 46 = .ok (.aload_n 0, 1) := by decide +kernel
theorem dSi_note_47 : decode bSi_note 47 = .ok (.getfield 21, 3) := by decide +kernel
theorem dSi_note_50 : decode bSi_note 50 = .ok (.aload_n 0, 1) := by decide +kernel
theorem dSi_note_51 : decode bSi_note 51 = .ok (.getfield 27, 3) := by decide +kernel
theorem dSi_note_54 : decode bSi_note 54 = .ok (.iload 4, 2) := by decide +kernel
theorem dSi_note_56 : decode bSi_note 56 = .ok (.iastore, 1) := by decide +kernel
theorem dSi_note_57 : decode bSi_note 57 = .ok (.aload_n 0, 1) := by decide +kernel
theorem dSi_note_58 : decode bSi_note 58 = .ok (.dup, 1) := by decide +kernel
theorem dSi_note_59 : decode bSi_note 59 = .ok (.getfield 27, 3) := by decide +kernel
theorem dSi_note_62 : decode bSi_note 62 = .ok (.iconst 1, 1) := by decide +kernel
theorem dSi_note_63 : decode bSi_note 63 = .ok (.iadd, 1) := by decide +kernel
theorem dSi_note_64 : decode bSi_note 64 = .ok (.putfield 27, 3) := by decide +kernel
theorem dSi_note_67 : decode bSi_note 67 = .ok (.aload_n 0, 1) := by decide +kernel
theorem dSi_note_68 : decode bSi_note 68 = .ok (.iconst 0, 1) := by decide +kernel
theorem dSi_note_69 : decode bSi_note 69 = .ok (.putfield 31, 3) := by decide +kernel
theorem dSi_note_72 : decode bSi_note 72 = .ok (.aload_n 0, 1) := by decide +kernel
theorem dSi_note_73 : decode bSi_note 73 = .ok (.getfield 27, 3) := by decide +kernel
theorem dSi_note_76 : decode bSi_note 76 = .ok (.ireturn, 1) := by decide +kernel
theorem dSi_drop_0 : decode bSi_drop 0 = .ok (.aload_n 0, 1) := by decide +kernel
theorem dSi_drop_1 : decode bSi_drop 1 = .ok (.getfield 27, 3) := by decide +kernel
theorem dSi_drop_4 : decode bSi_drop 4 = .ok (.istore_n 1, 1) := by decide +kernel
theorem dSi_drop_5 : decode bSi_drop 5 = .ok (.aload_n 0, 1) := by decide +kernel
theorem dSi_drop_6 : decode bSi_drop 6 = .ok (.iconst 0, 1) := by decide +kernel
theorem dSi_drop_7 : decode bSi_drop 7 = .ok (.putfield 27, 3) := by decide +kernel
theorem dSi_drop_10 : decode bSi_drop 10 = .ok (.aload_n 0, 1) := by decide +kernel
theorem dSi_drop_11 : decode bSi_drop 11 = .ok (.iconst 0, 1) := by decide +kernel
theorem dSi_drop_12 : decode bSi_drop 12 = .ok (.putfield 31, 3) := by decide +kernel
theorem dSi_drop_15 : decode bSi_drop 15 = .ok (.iload_n 1, 1) := by decide +kernel
theorem dSi_drop_16 : decode bSi_drop 16 = .ok (.ireturn, 1) := by decide +kernel
theorem dSi_findFits_0 : decode bSi_findFits 0 = .ok (.aload_n 0, 1) := by decide +kernel
theorem dSi_findFits_1 : decode bSi_findFits 1 = .ok (.getfield 31, 3) := by decide +kernel
theorem dSi_findFits_4 : decode bSi_findFits 4 = .ok (.ifCond .ne 67, 3) := by decide +kernel
theorem dSi_findFits_7 : decode bSi_findFits 7 = .ok (.aload_n 0, 1) := by decide +kernel
theorem dSi_findFits_8 : decode bSi_findFits 8 = .ok (.iconst 0, 1) := by decide +kernel
theorem dSi_findFits_9 : decode bSi_findFits 9 = .ok (.putfield 35, 3) := by decide +kernel
theorem dSi_findFits_12 : decode bSi_findFits 12 = .ok (.iconst 0, 1) := by decide +kernel
theorem dSi_findFits_13 : decode bSi_findFits 13 = .ok (.istore_n 2, 1) := by decide +kernel
theorem dSi_findFits_14 : decode bSi_findFits 14 = .ok (.iload_n 2, 1) := by decide +kernel
theorem dSi_findFits_15 : decode bSi_findFits 15 = .ok (.bipush 100, 2) := by decide +kernel
theorem dSi_findFits_17 : decode bSi_findFits 17 = .ok (.if_icmp .ge 49, 3) := by decide +kernel
theorem dSi_findFits_20 : decode bSi_findFits 20 = .ok (.aload_n 0, 1) := by decide +kernel
theorem dSi_findFits_21 : decode bSi_findFits 21 = .ok (.getfield 35, 3) := by decide +kernel
theorem dSi_findFits_24 : decode bSi_findFits 24 = .ok (.bipush 100, 2) := by decide +kernel
theorem dSi_findFits_26 : decode bSi_findFits 26 = .ok (.if_icmp .ge 40, 3) := by decide +kernel
theorem dSi_findFits_29 : decode bSi_findFits 29 = .ok (.aload_n 0, 1) := by decide +kernel
theorem dSi_findFits_30 : decode bSi_findFits 30 = .ok (.aload_n 1, 1) := by decide +kernel
theorem dSi_findFits_31 : decode bSi_findFits 31 = .ok (.iload_n 2, 1) := by decide +kernel
theorem dSi_findFits_32 : decode bSi_findFits 32 = .ok (.iconst 0, 1) := by decide +kernel
theorem dSi_findFits_33 : decode bSi_findFits 33 = .ok (.iconst 0, 1) := by decide +kernel
theorem dSi_findFits_34 : decode bSi_findFits 34 = .ok (.invokevirtual 38, 3) := by decide +kernel
theorem dSi_findFits_37 : decode bSi_findFits 37 = .ok (.ifCond .eq 23, 3) := by decide +kernel
theorem dSi_findFits_40 : decode bSi_findFits 40 = .ok (.aload_n 0, 1) := by decide +kernel
theorem dSi_findFits_41 : decode bSi_findFits 41 = .ok (.getfield 24, 3) := by decide +kernel
theorem dSi_findFits_44 : decode bSi_findFits 44 = .ok (.aload_n 0, 1) := by decide +kernel
theorem dSi_findFits_45 : decode bSi_findFits 45 = .ok (.getfield 35, 3) := by decide +kernel
theorem dSi_findFits_48 : decode bSi_findFits 48 = .ok (.iload_n 2, 1) := by decide +kernel
theorem dSi_findFits_49 : decode bSi_findFits 49 = .ok (.iastore, 1) := by decide +kernel
theorem dSi_findFits_50 : decode bSi_findFits 50 = .ok (.aload_n 0, 1) := by decide +kernel
theorem dSi_findFits_51 : decode bSi_findFits 51 = .ok (.dup, 1) := by decide +kernel
theorem dSi_findFits_52 : decode bSi_findFits 52 = .ok (.getfield 35, 3) := by decide +kernel
theorem dSi_findFits_55 : decode bSi_findFits 55 = .ok (.iconst 1, 1) := by decide +kernel
theorem dSi_findFits_56 : decode bSi_findFits 56 = .ok (.iadd, 1) := by decide +kernel
theorem dSi_findFits_57 : decode bSi_findFits 57 = .ok (.putfield 35, 3) := by decide +kernel
theorem dSi_findFits_60 : decode bSi_findFits 60 = .ok (.iinc 2 1, 3) := by decide +kernel
theorem dSi_findFits_63 : decode bSi_findFits 63 = .ok (.goto (-49), 3) := by decide +kernel
theorem dSi_findFits_66 : decode bSi_findFits 66 = .ok (.aload_n 0, 1) := by decide +kernel
theorem dSi_findFits_67 : decode bSi_findFits 67 = .ok (.iconst 1, 1) := by decide +kernel
theorem dSi_findFits_68 : decode bSi_findFits 68 = .ok (.putfield 31, 3) := by decide +kernel
theorem dSi_findFits_71 : decode bSi_findFits 71 = .ok (.aload_n 0, 1) := by decide +kernel
theorem dSi_findFits_72 : decode bSi_findFits 72 = .ok (.getfield 35, 3) := by decide +kernel
theorem dSi_findFits_75 : decode bSi_findFits 75 = .ok (.ireturn, 1) := by decide +kernel
theorem dSi_fitOf_0 : decode bSi_fitOf 0 = .ok (.iload_n 1, 1) := by decide +kernel
theorem dSi_fitOf_1 : decode bSi_fitOf 1 = .ok (.ifCond .lt 26, 3) := by decide +kernel
theorem dSi_fitOf_4 : decode bSi_fitOf 4 = .ok (.iload_n 1, 1) := by decide +kernel
theorem dSi_fitOf_5 : decode bSi_fitOf 5 = .ok (.aload_n 0, 1) := by decide +kernel
theorem dSi_fitOf_6 : decode bSi_fitOf 6 = .ok (.getfield 35, 3) := by decide +kernel
theorem dSi_fitOf_9 : decode bSi_fitOf 9 = .ok (.if_icmp .ge 18, 3) := by decide +kernel
theorem dSi_fitOf_12 : decode bSi_fitOf 12 = .ok (.iload_n 1, 1) := by decide +kernel
theorem dSi_fitOf_13 : decode bSi_fitOf 13 = .ok (.bipush 100, 2) := by decide +kernel
theorem dSi_fitOf_15 : decode bSi_fitOf 15 = .ok (.if_icmp .ge 12, 3) := by decide +kernel
theorem dSi_fitOf_18 : decode bSi_fitOf 18 = .ok (.aload_n 0, 1) := by decide +kernel
theorem dSi_fitOf_19 : decode bSi_fitOf 19 = .ok (.getfield 24, 3) := by decide +kernel
theorem dSi_fitOf_22 : decode bSi_fitOf 22 = .ok (.iload_n 1, 1) := by decide +kernel
theorem dSi_fitOf_23 : decode bSi_fitOf 23 = .ok (.iaload, 1) := by decide +kernel
theorem dSi_fitOf_24 : decode bSi_fitOf 24 = .ok (.goto 4, 3) := by decide +kernel
theorem dSi_fitOf_27 : decode bSi_fitOf 27 = .ok (.iconst 0, 1) := by decide +kernel
theorem dSi_fitOf_28 : decode bSi_fitOf 28 = .ok (.ireturn, 1) := by decide +kernel
theorem dSi_anyAgrees_0 : decode bSi_anyAgrees 0 = .ok (.iconst 0, 1) := by decide +kernel
theorem dSi_anyAgrees_1 : decode bSi_anyAgrees 1 = .ok (.istore 4, 2) := by decide +kernel
theorem dSi_anyAgrees_3 : decode bSi_anyAgrees 3 = .ok (.iload 4, 2) := by decide +kernel
theorem dSi_anyAgrees_5 : decode bSi_anyAgrees 5 = .ok (.bipush 100, 2) := by decide +kernel
theorem dSi_anyAgrees_7 : decode bSi_anyAgrees 7 = .ok (.if_icmp .ge 23, 3) := by decide +kernel
theorem dSi_anyAgrees_10 : decode bSi_anyAgrees 10 = .ok (.aload_n 0, 1) := by decide +kernel
theorem dSi_anyAgrees_11 : decode bSi_anyAgrees 11 = .ok (.aload_n 1, 1) := by decide +kernel
theorem dSi_anyAgrees_12 : decode bSi_anyAgrees 12 = .ok (.iload 4, 2) := by decide +kernel
theorem dSi_anyAgrees_14 : decode bSi_anyAgrees 14 = .ok (.iload_n 2, 1) := by decide +kernel
theorem dSi_anyAgrees_15 : decode bSi_anyAgrees 15 = .ok (.iload_n 3, 1) := by decide +kernel
theorem dSi_anyAgrees_16 : decode bSi_anyAgrees 16 = .ok (.invokevirtual 38, 3) := by decide +kernel
theorem dSi_anyAgrees_19 : decode bSi_anyAgrees 19 = .ok (.ifCond .eq 5, 3) := by decide +kernel
theorem dSi_anyAgrees_22 : decode bSi_anyAgrees 22 = .ok (.iconst 1, 1) := by decide +kernel
theorem dSi_anyAgrees_23 : decode bSi_anyAgrees 23 = .ok (.ireturn, 1) := by decide +kernel
theorem dSi_anyAgrees_24 : decode bSi_anyAgrees 24 = .ok (.iinc 4 1, 3) := by decide +kernel
theorem dSi_anyAgrees_27 : decode bSi_anyAgrees 27 = .ok (.goto (-24), 3) := by decide +kernel
theorem dSi_anyAgrees_30 : decode bSi_anyAgrees 30 = .ok (.iconst 0, 1) := by decide +kernel
theorem dSi_anyAgrees_31 : decode bSi_anyAgrees 31 = .ok (.ireturn, 1) := by decide +kernel
theorem dSi_agrees_0 : decode bSi_agrees 0 = .ok (.iconst 0, 1) := by decide +kernel
theorem dSi_agrees_1 : decode bSi_agrees 1 = .ok (.istore 5, 2) := by decide +kernel
theorem dSi_agrees_3 : decode bSi_agrees 3 = .ok (.iload 5, 2) := by decide +kernel
theorem dSi_agrees_5 : decode bSi_agrees 5 = .ok (.aload_n 0, 1) := by decide +kernel
theorem dSi_agrees_6 : decode bSi_agrees 6 = .ok (.getfield 27, 3) := by decide +kernel
theorem dSi_agrees_9 : decode bSi_agrees 9 = .ok (.if_icmp .ge 101, 3) := by decide +kernel
theorem dSi_agrees_12 : decode bSi_agrees 12 = .ok (.iload 5, 2) := by decide +kernel
theorem dSi_agrees_14 : decode bSi_agrees 14 = .ok (.bipush 24, 2) := by decide +kernel
theorem dSi_agrees_16 : decode bSi_agrees 16 = .ok (.if_icmp .ge 94, 3) := by decide +kernel
theorem dSi_agrees_19 : decode bSi_agrees 19 = .ok (.aload_n 0, 1) := by decide +kernel
theorem dSi_agrees_20 : decode bSi_agrees 20 = .ok (.getfield 15, 3) := by decide +kernel
theorem dSi_agrees_23 : decode bSi_agrees 23 = .ok (.iload 5, 2) := by decide +kernel
theorem dSi_agrees_25 : decode bSi_agrees 25 = .ok (.iaload, 1) := by decide +kernel
theorem dSi_agrees_26 : decode bSi_agrees 26 = .ok (.iconst 2, 1) := by decide +kernel
theorem dSi_agrees_27 : decode bSi_agrees 27 = .ok (.if_icmp .lt 7, 3) := by decide +kernel
theorem dSi_agrees_30 : decode bSi_agrees 30 = .ok (.iconst 1, 1) := by decide +kernel
theorem dSi_agrees_31 : decode bSi_agrees 31 = .ok (.goto 4, 3) := by decide +kernel
theorem dSi_agrees_34 : decode bSi_agrees 34 = .ok (.iconst 0, 1) := by decide +kernel
theorem dSi_agrees_35 : decode bSi_agrees 35 = .ok (.istore 6, 2) := by decide +kernel
theorem dSi_agrees_37 : decode bSi_agrees 37 = .ok (.iload 6, 2) := by decide +kernel
theorem dSi_agrees_39 : decode bSi_agrees 39 = .ok (.ifCond .eq 19, 3) := by decide +kernel
theorem dSi_agrees_42 : decode bSi_agrees 42 = .ok (.aload_n 0, 1) := by decide +kernel
theorem dSi_agrees_43 : decode bSi_agrees 43 = .ok (.getfield 11, 3) := by decide +kernel
theorem dSi_agrees_46 : decode bSi_agrees 46 = .ok (.iload 5, 2) := by decide +kernel
theorem dSi_agrees_48 : decode bSi_agrees 48 = .ok (.iaload, 1) := by decide +kernel
theorem dSi_agrees_49 : decode bSi_agrees 49 = .ok (.iload_n 3, 1) := by decide +kernel
theorem dSi_agrees_50 : decode bSi_agrees 50 = .ok (.iload 4, 2) := by decide +kernel
theorem dSi_agrees_52 : decode bSi_agrees 52 = .ok (.invokestatic 44, 3) := by decide +kernel
theorem dSi_agrees_55 : decode bSi_agrees 55 = .ok (.goto 10, 3) := by decide +kernel
theorem dSi_agrees_58 : decode bSi_agrees 58 = .ok (.aload_n 0, 1) := by decide +kernel
theorem dSi_agrees_59 : decode bSi_agrees 59 = .ok (.getfield 11, 3) := by decide +kernel
theorem dSi_agrees_62 : decode bSi_agrees 62 = .ok (.iload 5, 2) := by decide +kernel
theorem dSi_agrees_64 : decode bSi_agrees 64 = .ok (.iaload, 1) := by decide +kernel
theorem dSi_agrees_65 : decode bSi_agrees 65 = .ok (.istore 7, 2) := by decide +kernel
theorem dSi_agrees_67 : decode bSi_agrees 67 = .ok (.aload_n 1, 1) := by decide +kernel
theorem dSi_agrees_68 : decode bSi_agrees 68 = .ok (.iload_n 2, 1) := by decide +kernel
theorem dSi_agrees_69 : decode bSi_agrees 69 = .ok (.iload 7, 2) := by decide +kernel
theorem dSi_agrees_71 : decode bSi_agrees 71 = .ok (.aload_n 0, 1) := by decide +kernel
theorem dSi_agrees_72 : decode bSi_agrees 72 = .ok (.getfield 15, 3) := by decide +kernel
theorem dSi_agrees_75 : decode bSi_agrees 75 = .ok (.iload 5, 2) := by decide +kernel
theorem dSi_agrees_77 : decode bSi_agrees 77 = .ok (.iaload, 1) := by decide +kernel
theorem dSi_agrees_78 : decode bSi_agrees 78 = .ok (.invokevirtual 48, 3) := by decide +kernel
theorem dSi_agrees_81 : decode bSi_agrees 81 = .ok (.aload_n 0, 1) := by decide +kernel
theorem dSi_agrees_82 : decode bSi_agrees 82 = .ok (.getfield 18, 3) := by decide +kernel
theorem dSi_agrees_85 : decode bSi_agrees 85 = .ok (.iload 5, 2) := by decide +kernel
theorem dSi_agrees_87 : decode bSi_agrees 87 = .ok (.iaload, 1) := by decide +kernel
theorem dSi_agrees_88 : decode bSi_agrees 88 = .ok (.isub, 1) := by decide +kernel
theorem dSi_agrees_89 : decode bSi_agrees 89 = .ok (.invokestatic 51, 3) := by decide +kernel
theorem dSi_agrees_92 : decode bSi_agrees 92 = .ok (.aload_n 0, 1) := by decide +kernel
theorem dSi_agrees_93 : decode bSi_agrees 93 = .ok (.getfield 21, 3) := by decide +kernel
theorem dSi_agrees_96 : decode bSi_agrees 96 = .ok (.iload 5, 2) := by decide +kernel
theorem dSi_agrees_98 : decode bSi_agrees 98 = .ok (.iaload, 1) := by decide +kernel
theorem dSi_agrees_99 : decode bSi_agrees 99 = .ok (.if_icmp .le 5, 3) := by decide +kernel
theorem dSi_agrees_102 : decode bSi_agrees 102 = .ok (.iconst 0, 1) := by decide +kernel
theorem dSi_agrees_103 : decode bSi_agrees 103 = .ok (.ireturn, 1) := by decide +kernel
theorem dSi_agrees_104 : decode bSi_agrees 104 = .ok (.iinc 5 1, 3) := by decide +kernel
theorem dSi_agrees_107 : decode bSi_agrees 107 = .ok (.goto (-104), 3) := by decide +kernel
theorem dSi_agrees_110 : decode bSi_agrees 110 = .ok (.iconst 1, 1) := by decide +kernel
theorem dSi_agrees_111 : decode bSi_agrees 111 = .ok (.ireturn, 1) := by decide +kernel
theorem dSi_exchanged_0 : decode bSi_exchanged 0 = .ok (.iload_n 0, 1) := by decide +kernel
theorem dSi_exchanged_1 : decode bSi_exchanged 1 = .ok (.iload_n 1, 1) := by decide +kernel
theorem dSi_exchanged_2 : decode bSi_exchanged 2 = .ok (.if_icmp .ne 5, 3) := by decide +kernel
theorem dSi_exchanged_5 : decode bSi_exchanged 5 = .ok (.iload_n 2, 1) := by decide +kernel
theorem dSi_exchanged_6 : decode bSi_exchanged 6 = .ok (.ireturn, 1) := by decide +kernel
theorem dSi_exchanged_7 : decode bSi_exchanged 7 = .ok (.iload_n 0, 1) := by decide +kernel
theorem dSi_exchanged_8 : decode bSi_exchanged 8 = .ok (.iload_n 2, 1) := by decide +kernel
theorem dSi_exchanged_9 : decode bSi_exchanged 9 = .ok (.if_icmp .ne 7, 3) := by decide +kernel
theorem dSi_exchanged_12 : decode bSi_exchanged 12 = .ok (.iload_n 1, 1) := by decide +kernel
theorem dSi_exchanged_13 : decode bSi_exchanged 13 = .ok (.goto 4, 3) := by decide +kernel
theorem dSi_exchanged_16 : decode bSi_exchanged 16 = .ok (.iload_n 0, 1) := by decide +kernel
theorem dSi_exchanged_17 : decode bSi_exchanged 17 = .ok (.ireturn, 1) := by decide +kernel
theorem dTr_init_0 : decode bTr_init 0 = .ok (.aload_n 0, 1) := by decide +kernel
theorem dTr_init_1 : decode bTr_init 1 = .ok (.invokespecial 1, 3) := by decide +kernel
theorem dTr_init_4 : decode bTr_init 4 = .ok (.aload_n 0, 1) := by decide +kernel
theorem dTr_init_5 : decode bTr_init 5 = .ok (.bipush 8, 2) := by decide +kernel
theorem dTr_init_7 : decode bTr_init 7 = .ok (.newarray .int, 2) := by decide +kernel
theorem dTr_init_9 : decode bTr_init 9 = .ok (.putfield 9, 3) := by decide +kernel
theorem dTr_init_12 : decode bTr_init 12 = .ok (.aload_n 0, 1) := by decide +kernel
theorem dTr_init_13 : decode bTr_init 13 = .ok (.bipush 8, 2) := by decide +kernel
theorem dTr_init_15 : decode bTr_init 15 = .ok (.newarray .int, 2) := by decide +kernel
theorem dTr_init_17 : decode bTr_init 17 = .ok (.putfield 13, 3) := by decide +kernel
theorem dTr_init_20 : decode bTr_init 20 = .ok (.aload_n 0, 1) := by decide +kernel
theorem dTr_init_21 : decode bTr_init 21 = .ok (.bipush 16, 2) := by decide +kernel
theorem dTr_init_23 : decode bTr_init 23 = .ok (.newarray .int, 2) := by decide +kernel
theorem dTr_init_25 : decode bTr_init 25 = .ok (.putfield 16, 3) := by decide +kernel
theorem dTr_init_28 : decode bTr_init 28 = .ok (.return_, 1) := by decide +kernel
theorem dTr_isFilled_0 : decode bTr_isFilled 0 = .ok (.iload_n 1, 1) := by decide +kernel
theorem dTr_isFilled_1 : decode bTr_isFilled 1 = .ok (.ifCond .eq 10, 3) := by decide +kernel
theorem dTr_isFilled_4 : decode bTr_isFilled 4 = .ok (.aload_n 0, 1) := by decide +kernel
theorem dTr_isFilled_5 : decode bTr_isFilled 5 = .ok (.getfield 19, 3) := by decide +kernel
theorem dTr_isFilled_8 : decode bTr_isFilled 8 = .ok (.goto 7, 3) := by decide +kernel
theorem dTr_isFilled_11 : decode bTr_isFilled 11 = .ok (.aload_n 0, 1) := by decide +kernel
theorem dTr_isFilled_12 : decode bTr_isFilled 12 = .ok (.getfield 23, 3) := by decide +kernel
theorem dTr_isFilled_15 : decode bTr_isFilled 15 = .ok (.bipush 8, 2) := by decide +kernel
theorem dTr_isFilled_17 : decode bTr_isFilled 17 = .ok (.if_icmp .lt 7, 3) := by decide +kernel
theorem dTr_isFilled_20 : decode bTr_isFilled 20 = .ok (.iconst 1, 1) := by decide +kernel
theorem dTr_isFilled_21 : decode bTr_isFilled 21 = .ok (.goto 4, 3) := by decide +kernel
theorem dTr_isFilled_24 : decode bTr_isFilled 24 = .ok (.iconst 0, 1) := by decide +kernel
theorem dTr_isFilled_25 : decode bTr_isFilled 25 = .ok (.ireturn, 1) := by decide +kernel
theorem dTr_lacksRow_0 : decode bTr_lacksRow 0 = .ok (.aload_n 0, 1) := by decide +kernel
theorem dTr_lacksRow_1 : decode bTr_lacksRow 1 = .ok (.getfield 23, 3) := by decide +kernel
theorem dTr_lacksRow_4 : decode bTr_lacksRow 4 = .ok (.ifCond .eq 10, 3) := by decide +kernel
theorem dTr_lacksRow_7 : decode bTr_lacksRow 7 = .ok (.aload_n 0, 1) := by decide +kernel
theorem dTr_lacksRow_8 : decode bTr_lacksRow 8 = .ok (.getfield 19, 3) := by decide +kernel
theorem dTr_lacksRow_11 : decode bTr_lacksRow 11 = .ok (.ifCond .ne 7, 3) := by decide +kernel
theorem dTr_lacksRow_14 : decode bTr_lacksRow 14 = .ok (.iconst 1, 1) := by decide +kernel
theorem dTr_lacksRow_15 : decode bTr_lacksRow 15 = .ok (.goto 4, 3) := by decide +kernel
theorem dTr_lacksRow_18 : decode bTr_lacksRow 18 = .ok (.iconst 0, 1) := by decide +kernel
theorem dTr_lacksRow_19 : decode bTr_lacksRow 19 = .ok (.ireturn, 1) := by decide +kernel
theorem dTr_add_0 : decode bTr_add 0 = .ok (.aload_n 0, 1) := by decide +kernel
theorem dTr_add_1 : decode bTr_add 1 = .ok (.iload_n 1, 1) := by decide +kernel
theorem dTr_add_2 : decode bTr_add 2 = .ok (.invokevirtual 26, 3) := by decide +kernel
theorem dTr_add_5 : decode bTr_add 5 = .ok (.ifCond .eq 6, 3) := by decide +kernel
theorem dTr_add_8 : decode bTr_add 8 = .ok (.bipush 8, 2) := by decide +kernel
theorem dTr_add_10 : decode bTr_add 10 = .ok (.ireturn, 1) := by decide +kernel
theorem dTr_add_11 : decode bTr_add 11 = .ok (.iload_n 1, 1) := by decide +kernel
theorem dTr_add_12 : decode bTr_add 12 = .ok (.ifCond .eq 28, 3) := by decide +kernel
theorem dTr_add_15 : decode bTr_add 15 = .ok (.aload_n 0, 1) := by decide +kernel
theorem dTr_add_16 : decode bTr_add 16 = .ok (.getfield 13, 3) := by decide +kernel
theorem dTr_add_19 : decode bTr_add 19 = .ok (.aload_n 0, 1) := by decide +kernel
theorem dTr_add_20 : decode bTr_add 20 = .ok (.getfield 19, 3) := by decide +kernel
theorem dTr_add_23 : decode bTr_add 23 = .ok (.iload_n 2, 1) := by decide +kernel
theorem dTr_add_24 : decode bTr_add 24 = .ok (.iastore, 1) := by decide +kernel
theorem dTr_add_25 : decode bTr_add 25 = .ok (.aload_n 0, 1) := by decide +kernel
theorem dTr_add_26 : decode bTr_add 26 = .ok (.dup, 1) := by decide +kernel
theorem dTr_add_27 : decode bTr_add 27 = .ok (.getfield 19, 3) := by decide +kernel
theorem dTr_add_30 : decode bTr_add 30 = .ok (.iconst 1, 1) := by decide +kernel
theorem dTr_add_31 : decode bTr_add 31 = .ok (.iadd, 1) := by decide +kernel
theorem dTr_add_32 : decode bTr_add 32 = .ok (.putfield 19, 3) := by decide +kernel
theorem dTr_add_35 : decode bTr_add 35 = .ok (.aload_n 0, 1) := by decide +kernel
theorem dTr_add_36 : decode bTr_add 36 = .ok (.getfield 19, 3) := by decide +kernel
theorem dTr_add_39 : decode bTr_add 39 = .ok (.ireturn, 1) := by decide +kernel
theorem dTr_add_40 : decode bTr_add 40 = .ok (.aload_n 0, 1) := by decide +kernel
theorem dTr_add_41 : decode bTr_add 41 = .ok (.getfield 9, 3) := by decide +kernel
theorem dTr_add_44 : decode bTr_add 44 = .ok (.aload_n 0, 1) := by decide +kernel
theorem dTr_add_45 : decode bTr_add 45 = .ok (.getfield 23, 3) := by decide +kernel
theorem dTr_add_48 : decode bTr_add 48 = .ok (.iload_n 2, 1) := by decide +kernel
theorem dTr_add_49 : decode bTr_add 49 = .ok (.iastore, 1) := by decide +kernel
theorem dTr_add_50 : decode bTr_add 50 = .ok (.aload_n 0, 1) := by decide +kernel
theorem dTr_add_51 : decode bTr_add 51 = .ok (.dup, 1) := by decide +kernel
theorem dTr_add_52 : decode bTr_add 52 = .ok (.getfield 23, 3) := by decide +kernel
theorem dTr_add_55 : decode bTr_add 55 = .ok (.iconst 1, 1) := by decide +kernel
theorem dTr_add_56 : decode bTr_add 56 = .ok (.iadd, 1) := by decide +kernel
theorem dTr_add_57 : decode bTr_add 57 = .ok (.putfield 23, 3) := by decide +kernel
theorem dTr_add_60 : decode bTr_add 60 = .ok (.aload_n 0, 1) := by decide +kernel
theorem dTr_add_61 : decode bTr_add 61 = .ok (.getfield 23, 3) := by decide +kernel
theorem dTr_add_64 : decode bTr_add 64 = .ok (.ireturn, 1) := by decide +kernel
theorem dTr_drop_0 : decode bTr_drop 0 = .ok (.aload_n 0, 1) := by decide +kernel
theorem dTr_drop_1 : decode bTr_drop 1 = .ok (.getfield 23, 3) := by decide +kernel
theorem dTr_drop_4 : decode bTr_drop 4 = .ok (.aload_n 0, 1) := by decide +kernel
theorem dTr_drop_5 : decode bTr_drop 5 = .ok (.getfield 19, 3) := by decide +kernel
theorem dTr_drop_8 : decode bTr_drop 8 = .ok (.iadd, 1) := by decide +kernel
theorem dTr_drop_9 : decode bTr_drop 9 = .ok (.istore_n 1, 1) := by decide +kernel
theorem dTr_drop_10 : decode bTr_drop 10 = .ok (.aload_n 0, 1) := by decide +kernel
theorem dTr_drop_11 : decode bTr_drop 11 = .ok (.iconst 0, 1) := by decide +kernel
theorem dTr_drop_12 : decode bTr_drop 12 = .ok (.putfield 23, 3) := by decide +kernel
theorem dTr_drop_15 : decode bTr_drop 15 = .ok (.aload_n 0, 1) := by decide +kernel
theorem dTr_drop_16 : decode bTr_drop 16 = .ok (.iconst 0, 1) := by decide +kernel
theorem dTr_drop_17 : decode bTr_drop 17 = .ok (.putfield 19, 3) := by decide +kernel
theorem dTr_drop_20 : decode bTr_drop 20 = .ok (.iload_n 1, 1) := by decide +kernel
theorem dTr_drop_21 : decode bTr_drop 21 = .ok (.ireturn, 1) := by decide +kernel
theorem dTr_countNoLess_0 : decode bTr_countNoLess 0 = .ok (.iconst 0, 1) := by decide +kernel
theorem dTr_countNoLess_1 : decode bTr_countNoLess 1 = .ok (.istore_n 1, 1) := by decide +kernel
theorem dTr_countNoLess_2 : decode bTr_countNoLess 2 = .ok (.iconst 0, 1) := by decide +kernel
theorem dTr_countNoLess_3 : decode bTr_countNoLess 3 = .ok (.istore_n 2, 1) := by decide +kernel
theorem dTr_countNoLess_4 : decode bTr_countNoLess 4 = .ok (.iload_n 2, 1) := by decide +kernel
theorem dTr_countNoLess_5 : decode bTr_countNoLess 5 = .ok (.aload_n 0, 1) := by decide +kernel
theorem dTr_countNoLess_6 : decode bTr_countNoLess 6 = .ok (.getfield 19, 3) := by decide +kernel
theorem dTr_countNoLess_9 : decode bTr_countNoLess 9 = .ok (.if_icmp .ge 36, 3) := by decide +kernel
theorem dTr_countNoLess_12 : decode bTr_countNoLess 12 = .ok (.iload_n 2, 1) := by decide +kernel
theorem dTr_countNoLess_13 : decode bTr_countNoLess 13 = .ok (.bipush 8, 2) := by decide +kernel
theorem dTr_countNoLess_15 : decode bTr_countNoLess 15 = .ok (.if_icmp .ge 30, 3) := by decide +kernel
theorem dTr_countNoLess_18 : decode bTr_countNoLess 18 = .ok (.aload_n 0, 1) := by decide +kernel
theorem dTr_countNoLess_19 : decode bTr_countNoLess 19 = .ok (.getfield 16, 3) := by decide +kernel
theorem dTr_countNoLess_22 : decode bTr_countNoLess 22 = .ok (.iload_n 2, 1) := by decide +kernel
theorem dTr_countNoLess_23 : decode bTr_countNoLess 23 = .ok (.aload_n 0, 1) := by decide +kernel
theorem dTr_countNoLess_24 : decode bTr_countNoLess 24 = .ok (.getfield 13, 3) := by decide +kernel
theorem dTr_countNoLess_27 : decode bTr_countNoLess 27 = .ok (.iload_n 2, 1) := by decide +kernel
theorem dTr_countNoLess_28 : decode bTr_countNoLess 28 = .ok (.iaload, 1) := by decide +kernel
theorem dTr_countNoLess_29 : decode bTr_countNoLess 29 = .ok (.iastore, 1) := by decide +kernel
theorem dTr_countNoLess_30 : decode bTr_countNoLess 30 = .ok (.iload_n 1, 1) := by decide +kernel
theorem dTr_countNoLess_31 : decode bTr_countNoLess 31 = .ok (.aload_n 0, 1) := by decide +kernel
theorem dTr_countNoLess_32 : decode bTr_countNoLess 32 = .ok (.getfield 13, 3) := by decide +kernel
theorem dTr_countNoLess_35 : decode bTr_countNoLess 35 = .ok (.iload_n 2, 1) := by decide +kernel
theorem dTr_countNoLess_36 : decode bTr_countNoLess 36 = .ok (.iaload, 1) := by decide +kernel
theorem dTr_countNoLess_37 : decode bTr_countNoLess 37 = .ok (.iadd, 1) := by decide +kernel
theorem dTr_countNoLess_38 : decode bTr_countNoLess 38 = .ok (.istore_n 1, 1) := by decide +kernel
theorem dTr_countNoLess_39 : decode bTr_countNoLess 39 = .ok (.iinc 2 1, 3) := by decide +kernel
theorem dTr_countNoLess_42 : decode bTr_countNoLess 42 = .ok (.goto (-38), 3) := by decide +kernel
theorem dTr_countNoLess_45 : decode bTr_countNoLess 45 = .ok (.iconst 0, 1) := by decide +kernel
theorem dTr_countNoLess_46 : decode bTr_countNoLess 46 = .ok (.istore_n 2, 1) := by decide +kernel
theorem dTr_countNoLess_47 : decode bTr_countNoLess 47 = .ok (.iload_n 2, 1) := by decide +kernel
theorem dTr_countNoLess_48 : decode bTr_countNoLess 48 = .ok (.aload_n 0, 1) := by decide +kernel
theorem dTr_countNoLess_49 : decode bTr_countNoLess 49 = .ok (.getfield 23, 3) := by decide +kernel
theorem dTr_countNoLess_52 : decode bTr_countNoLess 52 = .ok (.if_icmp .ge 46, 3) := by decide +kernel
theorem dTr_countNoLess_55 : decode bTr_countNoLess 55 = .ok (.iload_n 2, 1) := by decide +kernel
theorem dTr_countNoLess_56 : decode bTr_countNoLess 56 = .ok (.bipush 8, 2) := by decide +kernel
theorem dTr_countNoLess_58 : decode bTr_countNoLess 58 = .ok (.if_icmp .ge 40, 3) := by decide +kernel
theorem dTr_countNoLess_61 : decode bTr_countNoLess 61 = .ok (.aload_n 0, 1) := by decide +kernel
theorem dTr_countNoLess_62 : decode bTr_countNoLess 62 = .ok (.getfield 19, 3) := by decide +kernel
theorem dTr_countNoLess_65 : decode bTr_countNoLess 65 = .ok (.iload_n 2, 1) := by decide +kernel
theorem dTr_countNoLess_66 : decode bTr_countNoLess 66 = .ok (.iadd, 1) := by decide +kernel
theorem dTr_countNoLess_67 : decode bTr_countNoLess 67 = .ok (.aload_n 0, 1) := by decide +kernel
theorem dTr_countNoLess_68 : decode bTr_countNoLess 68 = .ok (.getfield 16, 3) := by decide +kernel
theorem dTr_countNoLess_71 : decode bTr_countNoLess 71 = .ok (.arraylength, 1) := by decide +kernel
theorem dTr_countNoLess_72 : decode bTr_countNoLess 72 = .ok (.if_icmp .ge 26, 3) := by decide +kernel
theorem dTr_countNoLess_75 : decode bTr_countNoLess 75 = .ok (.aload_n 0, 1) := by decide +kernel
theorem dTr_countNoLess_76 : decode bTr_countNoLess 76 = .ok (.getfield 16, 3) := by decide +kernel
theorem dTr_countNoLess_79 : decode bTr_countNoLess 79 = .ok (.aload_n 0, 1) := by decide +kernel
theorem dTr_countNoLess_80 : decode bTr_countNoLess 80 = .ok (.getfield 19, 3) := by decide +kernel
theorem dTr_countNoLess_83 : decode bTr_countNoLess 83 = .ok (.iload_n 2, 1) := by decide +kernel
theorem dTr_countNoLess_84 : decode bTr_countNoLess 84 = .ok (.iadd, 1) := by decide +kernel
theorem dTr_countNoLess_85 : decode bTr_countNoLess 85 = .ok (.aload_n 0, 1) := by decide +kernel
theorem dTr_countNoLess_86 : decode bTr_countNoLess 86 = .ok (.getfield 9, 3) := by decide +kernel
theorem dTr_countNoLess_89 : decode bTr_countNoLess 89 = .ok (.iload_n 2, 1) := by decide +kernel
theorem dTr_countNoLess_90 : decode bTr_countNoLess 90 = .ok (.iaload, 1) := by decide +kernel
theorem dTr_countNoLess_91 : decode bTr_countNoLess 91 = .ok (.iastore, 1) := by decide +kernel
theorem dTr_countNoLess_92 : decode bTr_countNoLess 92 = .ok (.iinc 2 1, 3) := by decide +kernel
theorem dTr_countNoLess_95 : decode bTr_countNoLess 95 = .ok (.goto (-48), 3) := by decide +kernel
theorem dTr_countNoLess_98 : decode bTr_countNoLess 98 = .ok (.aload_n 0, 1) := by decide +kernel
theorem dTr_countNoLess_99 : decode bTr_countNoLess 99 = .ok (.getfield 16, 3) := by decide +kernel
theorem dTr_countNoLess_102 : decode bTr_countNoLess 102 = .ok (.iconst 0, 1) := by decide +kernel
theorem dTr_countNoLess_103 : decode bTr_countNoLess 103 = .ok (.aload_n 0, 1) := by decide +kernel
theorem dTr_countNoLess_104 : decode bTr_countNoLess 104 = .ok (.getfield 23, 3) := by decide +kernel
theorem dTr_countNoLess_107 : decode bTr_countNoLess 107 = .ok (.aload_n 0, 1) := by decide +kernel
theorem dTr_countNoLess_108 : decode bTr_countNoLess 108 = .ok (.getfield 19, 3) := by decide +kernel
theorem dTr_countNoLess_111 : decode bTr_countNoLess 111 = .ok (.iadd, 1) := by decide +kernel
theorem dTr_countNoLess_112 : decode bTr_countNoLess 112 = .ok (.aload_n 0, 1) := by decide +kernel
theorem dTr_countNoLess_113 : decode bTr_countNoLess 113 = .ok (.getfield 19, 3) := by decide +kernel
theorem dTr_countNoLess_116 : decode bTr_countNoLess 116 = .ok (.iload_n 1, 1) := by decide +kernel
theorem dTr_countNoLess_117 : decode bTr_countNoLess 117 = .ok (.invokestatic 30, 3) := by decide +kernel
theorem dTr_countNoLess_120 : decode bTr_countNoLess 120 = .ok (.ireturn, 1) := by decide +kernel
theorem dTr_countAll_0 : decode bTr_countAll 0 = .ok (.lconst 1, 1) := by decide +kernel
theorem dTr_countAll_1 : decode bTr_countAll 1 = .ok (.lstore_n 1, 1) := by decide +kernel
theorem dTr_countAll_2 : decode bTr_countAll 2 = .ok (.iconst 1, 1) := by decide +kernel
theorem dTr_countAll_3 : decode bTr_countAll 3 = .ok (.istore_n 3, 1) := by decide +kernel
theorem dTr_countAll_4 : decode bTr_countAll 4 = .ok (.iload_n 3, 1) := by decide +kernel
theorem dTr_countAll_5 : decode bTr_countAll 5 = .ok (.aload_n 0, 1) := by decide +kernel
theorem dTr_countAll_6 : decode bTr_countAll 6 = .ok (.getfield 19, 3) := by decide +kernel
theorem dTr_countAll_9 : decode bTr_countAll 9 = .ok (.if_icmp .gt 22, 3) := by decide +kernel
theorem dTr_countAll_12 : decode bTr_countAll 12 = .ok (.lload_n 1, 1) := by decide +kernel
theorem dTr_countAll_13 : decode bTr_countAll 13 = .ok (.aload_n 0, 1) := by decide +kernel
theorem dTr_countAll_14 : decode bTr_countAll 14 = .ok (.getfield 23, 3) := by decide +kernel
theorem dTr_countAll_17 : decode bTr_countAll 17 = .ok (.iload_n 3, 1) := by decide +kernel
theorem dTr_countAll_18 : decode bTr_countAll 18 = .ok (.iadd, 1) := by decide +kernel
theorem dTr_countAll_19 : decode bTr_countAll 19 = .ok (.i2l, 1) := by decide +kernel
theorem dTr_countAll_20 : decode bTr_countAll 20 = .ok (.lmul, 1) := by decide +kernel
theorem dTr_countAll_21 : decode bTr_countAll 21 = .ok (.iload_n 3, 1) := by decide +kernel
theorem dTr_countAll_22 : decode bTr_countAll 22 = .ok (.i2l, 1) := by decide +kernel
theorem dTr_countAll_23 : decode bTr_countAll 23 = .ok (.ldiv, 1) := by decide +kernel
theorem dTr_countAll_24 : decode bTr_countAll 24 = .ok (.lstore_n 1, 1) := by decide +kernel
theorem dTr_countAll_25 : decode bTr_countAll 25 = .ok (.iinc 3 1, 3) := by decide +kernel
theorem dTr_countAll_28 : decode bTr_countAll 28 = .ok (.goto (-24), 3) := by decide +kernel
theorem dTr_countAll_31 : decode bTr_countAll 31 = .ok (.lload_n 1, 1) := by decide +kernel
theorem dTr_countAll_32 : decode bTr_countAll 32 = .ok (.l2i, 1) := by decide +kernel
theorem dTr_countAll_33 : decode bTr_countAll 33 = .ok (.ireturn, 1) := by decide +kernel
theorem dTr_countFrom_0 : decode bTr_countFrom 0 = .ok (.iload_n 3, 1) := by decide +kernel
theorem dTr_countFrom_1 : decode bTr_countFrom 1 = .ok (.ifCond .gt 14, 3) := by decide +kernel
theorem dTr_countFrom_4 : decode bTr_countFrom 4 = .ok (.iload 4, 2) := by decide +kernel
theorem dTr_countFrom_6 : decode bTr_countFrom 6 = .ok (.ifCond .gt 7, 3) := by decide +kernel
theorem dTr_countFrom_9 : decode bTr_countFrom 9 = .ok (.iconst 1, 1) := by decide +kernel
theorem dTr_countFrom_10 : decode bTr_countFrom 10 = .ok (.goto 4, 3) := by decide +kernel
theorem dTr_countFrom_13 : decode bTr_countFrom 13 = .ok (.iconst 0, 1) := by decide +kernel
theorem dTr_countFrom_14 : decode bTr_countFrom 14 = .ok (.ireturn, 1) := by decide +kernel
theorem dTr_countFrom_15 : decode bTr_countFrom 15 = .ok (.iload_n 1, 1) := by decide +kernel
theorem dTr_countFrom_16 : decode bTr_countFrom 16 = .ok (.ifCond .lt 21, 3) := by decide +kernel
theorem dTr_countFrom_19 : decode bTr_countFrom 19 = .ok (.iload_n 1, 1) := by decide +kernel
theorem dTr_countFrom_20 : decode bTr_countFrom 20 = .ok (.iload_n 2, 1) := by decide +kernel
theorem dTr_countFrom_21 : decode bTr_countFrom 21 = .ok (.if_icmp .ge 16, 3) := by decide +kernel
theorem dTr_countFrom_24 : decode bTr_countFrom 24 = .ok (.iload_n 1, 1) := by decide +kernel
theorem dTr_countFrom_25 : decode bTr_countFrom 25 = .ok (.aload_n 0, 1) := by decide +kernel
theorem dTr_countFrom_26 : decode bTr_countFrom 26 = .ok (.arraylength, 1) := by decide +kernel
theorem dTr_countFrom_27 : decode bTr_countFrom 27 = .ok (.if_icmp .ge 10, 3) := by decide +kernel
theorem dTr_countFrom_30 : decode bTr_countFrom 30 = .ok (.iload_n 3, 1) := by decide +kernel
theorem dTr_countFrom_31 : decode bTr_countFrom 31 = .ok (.iload_n 2, 1) := by decide +kernel
theorem dTr_countFrom_32 : decode bTr_countFrom 32 = .ok (.iload_n 1, 1) := by decide +kernel
theorem dTr_countFrom_33 : decode bTr_countFrom 33 = .ok (.isub, 1) := by decide +kernel
theorem dTr_countFrom_34 : decode bTr_countFrom 34 = .ok (.if_icmp .le 5, 3) := by decide +kernel
theorem dTr_countFrom_37 : decode bTr_countFrom 37 = .ok (.iconst 0, 1) := by decide +kernel
theorem dTr_countFrom_38 : decode bTr_countFrom 38 = .ok (.ireturn, 1) := by decide +kernel
theorem dTr_countFrom_39 : decode bTr_countFrom 39 = .ok (.aload_n 0, 1) := by decide +kernel
theorem dTr_countFrom_40 : decode bTr_countFrom 40 = .ok (.iload_n 1, 1) := by decide +kernel
theorem dTr_countFrom_41 : decode bTr_countFrom 41 = .ok (.iconst 1, 1) := by decide +kernel
theorem dTr_countFrom_42 : decode bTr_countFrom 42 = .ok (.iadd, 1) := by decide +kernel
theorem dTr_countFrom_43 : decode bTr_countFrom 43 = .ok (.iload_n 2, 1) := by decide +kernel
theorem dTr_countFrom_44 : decode bTr_countFrom 44 = .ok (.iload_n 3, 1) := by decide +kernel
theorem dTr_countFrom_45 : decode bTr_countFrom 45 = .ok (.iconst 1, 1) := by decide +kernel
theorem dTr_countFrom_46 : decode bTr_countFrom 46 = .ok (.isub, 1) := by decide +kernel
theorem dTr_countFrom_47 : decode bTr_countFrom 47 = .ok (.iload 4, 2) := by decide +kernel
theorem dTr_countFrom_49 : decode bTr_countFrom 49 = .ok (.aload_n 0, 1) := by decide +kernel
theorem dTr_countFrom_50 : decode bTr_countFrom 50 = .ok (.iload_n 1, 1) := by decide +kernel
theorem dTr_countFrom_51 : decode bTr_countFrom 51 = .ok (.iaload, 1) := by decide +kernel
theorem dTr_countFrom_52 : decode bTr_countFrom 52 = .ok (.isub, 1) := by decide +kernel
theorem dTr_countFrom_53 : decode bTr_countFrom 53 = .ok (.invokestatic 30, 3) := by decide +kernel
theorem dTr_countFrom_56 : decode bTr_countFrom 56 = .ok (.aload_n 0, 1) := by decide +kernel
theorem dTr_countFrom_57 : decode bTr_countFrom 57 = .ok (.iload_n 1, 1) := by decide +kernel
theorem dTr_countFrom_58 : decode bTr_countFrom 58 = .ok (.iconst 1, 1) := by decide +kernel
theorem dTr_countFrom_59 : decode bTr_countFrom 59 = .ok (.iadd, 1) := by decide +kernel
theorem dTr_countFrom_60 : decode bTr_countFrom 60 = .ok (.iload_n 2, 1) := by decide +kernel
theorem dTr_countFrom_61 : decode bTr_countFrom 61 = .ok (.iload_n 3, 1) := by decide +kernel
theorem dTr_countFrom_62 : decode bTr_countFrom 62 = .ok (.iload 4, 2) := by decide +kernel
theorem dTr_countFrom_64 : decode bTr_countFrom 64 = .ok (.invokestatic 30, 3) := by decide +kernel
theorem dTr_countFrom_67 : decode bTr_countFrom 67 = .ok (.iadd, 1) := by decide +kernel
theorem dTr_countFrom_68 : decode bTr_countFrom 68 = .ok (.ireturn, 1) := by decide +kernel
theorem dRM_init_0 : decode bRM_init 0 = .ok (.aload_n 0, 1) := by decide +kernel
theorem dRM_init_1 : decode bRM_init 1 = .ok (.invokespecial 3, 3) := by decide +kernel
theorem dRM_init_4 : decode bRM_init 4 = .ok (.aload_n 0, 1) := by decide +kernel
theorem dRM_init_5 : decode bRM_init 5 = .ok (.new 9, 3) := by decide +kernel
theorem dRM_init_8 : decode bRM_init 8 = .ok (.dup, 1) := by decide +kernel
theorem dRM_init_9 : decode bRM_init 9 = .ok (.invokespecial 11, 3) := by decide +kernel
theorem dRM_init_12 : decode bRM_init 12 = .ok (.putfield 12, 3) := by decide +kernel
theorem dRM_init_15 : decode bRM_init 15 = .ok (.aload_n 0, 1) := by decide +kernel
theorem dRM_init_16 : decode bRM_init 16 = .ok (.new 16, 3) := by decide +kernel
theorem dRM_init_19 : decode bRM_init 19 = .ok (.dup, 1) := by decide +kernel
theorem dRM_init_20 : decode bRM_init 20 = .ok (.invokespecial 18, 3) := by decide +kernel
theorem dRM_init_23 : decode bRM_init 23 = .ok (.putfield 19, 3) := by decide +kernel
theorem dRM_init_26 : decode bRM_init 26 = .ok (.aload_n 0, 1) := by decide +kernel
theorem dRM_init_27 : decode bRM_init 27 = .ok (.new 16, 3) := by decide +kernel
theorem dRM_init_30 : decode bRM_init 30 = .ok (.dup, 1) := by decide +kernel
theorem dRM_init_31 : decode bRM_init 31 = .ok (.invokespecial 18, 3) := by decide +kernel
theorem dRM_init_34 : decode bRM_init 34 = .ok (.putfield 23, 3) := by decide +kernel
theorem dRM_init_37 : decode bRM_init 37 = .ok (.aload_n 0, 1) := by decide +kernel
theorem dRM_init_38 : decode bRM_init 38 = .ok (.new 26, 3) := by decide +kernel
theorem dRM_init_41 : decode bRM_init 41 = .ok (.dup, 1) := by decide +kernel
theorem dRM_init_42 : decode bRM_init 42 = .ok (.invokespecial 28, 3) := by decide +kernel
theorem dRM_init_45 : decode bRM_init 45 = .ok (.putfield 29, 3) := by decide +kernel
theorem dRM_init_48 : decode bRM_init 48 = .ok (.aload_n 0, 1) := by decide +kernel
theorem dRM_init_49 : decode bRM_init 49 = .ok (.iconst 3, 1) := by decide +kernel
theorem dRM_init_50 : decode bRM_init 50 = .ok (.newarray .int, 2) := by decide +kernel
theorem dRM_init_52 : decode bRM_init 52 = .ok (.putfield 33, 3) := by decide +kernel
theorem dRM_init_55 : decode bRM_init 55 = .ok (.aload_n 0, 1) := by decide +kernel
theorem dRM_init_56 : decode bRM_init 56 = .ok (.bipush 36, 2) := by decide +kernel
theorem dRM_init_58 : decode bRM_init 58 = .ok (.newarray .int, 2) := by decide +kernel
theorem dRM_init_60 : decode bRM_init 60 = .ok (.putfield 37, 3) := by decide +kernel
theorem dRM_init_63 : decode bRM_init 63 = .ok (.aload_n 0, 1) := by decide +kernel
theorem dRM_init_64 : decode bRM_init 64 = .ok (.new 40, 3) := by decide +kernel
theorem dRM_init_67 : decode bRM_init 67 = .ok (.dup, 1) := by decide +kernel
theorem dRM_init_68 : decode bRM_init 68 = .ok (.invokespecial 42, 3) := by decide +kernel
theorem dRM_init_71 : decode bRM_init 71 = .ok (.putfield 43, 3) := by decide +kernel
theorem dRM_init_74 : decode bRM_init 74 = .ok (.aload_n 0, 1) := by decide +kernel
theorem dRM_init_75 : decode bRM_init 75 = .ok (.new 47, 3) := by decide +kernel
theorem dRM_init_78 : decode bRM_init 78 = .ok (.dup, 1) := by decide +kernel
theorem dRM_init_79 : decode bRM_init 79 = .ok (.invokespecial 49, 3) := by decide +kernel
theorem dRM_init_82 : decode bRM_init 82 = .ok (.putfield 50, 3) := by decide +kernel
theorem dRM_init_85 : decode bRM_init 85 = .ok (.aload_n 0, 1) := by decide +kernel
theorem dRM_init_86 : decode bRM_init 86 = .ok (.new 54, 3) := by decide +kernel
theorem dRM_init_89 : decode bRM_init 89 = .ok (.dup, 1) := by decide +kernel
theorem dRM_init_90 : decode bRM_init 90 = .ok (.invokespecial 56, 3) := by decide +kernel
theorem dRM_init_93 : decode bRM_init 93 = .ok (.putfield 57, 3) := by decide +kernel
theorem dRM_init_96 : decode bRM_init 96 = .ok (.aload_n 0, 1) := by decide +kernel
theorem dRM_init_97 : decode bRM_init 97 = .ok (.new 61, 3) := by decide +kernel
theorem dRM_init_100 : decode bRM_init 100 = .ok (.dup, 1) := by decide +kernel
theorem dRM_init_101 : decode bRM_init 101 = .ok (.invokespecial 63, 3) := by decide +kernel
theorem dRM_init_104 : decode bRM_init 104 = .ok (.putfield 64, 3) := by decide +kernel
theorem dRM_init_107 : decode bRM_init 107 = .ok (.aload_n 0, 1) := by decide +kernel
theorem dRM_init_108 : decode bRM_init 108 = .ok (.new 68, 3) := by decide +kernel
theorem dRM_init_111 : decode bRM_init 111 = .ok (.dup, 1) := by decide +kernel
theorem dRM_init_112 : decode bRM_init 112 = .ok (.invokespecial 70, 3) := by decide +kernel
theorem dRM_init_115 : decode bRM_init 115 = .ok (.putfield 71, 3) := by decide +kernel
theorem dRM_init_118 : decode bRM_init 118 = .ok (.aload_n 0, 1) := by decide +kernel
theorem dRM_init_119 : decode bRM_init 119 = .ok (.new 26, 3) := by decide +kernel
theorem dRM_init_122 : decode bRM_init 122 = .ok (.dup, 1) := by decide +kernel
theorem dRM_init_123 : decode bRM_init 123 = .ok (.invokespecial 28, 3) := by decide +kernel
theorem dRM_init_126 : decode bRM_init 126 = .ok (.putfield 75, 3) := by decide +kernel
theorem dRM_init_129 : decode bRM_init 129 = .ok (.aload_n 0, 1) := by decide +kernel
theorem dRM_init_130 : decode bRM_init 130 = .ok (.sipush 240, 3) := by decide +kernel
theorem dRM_init_133 : decode bRM_init 133 = .ok (.newarray .int, 2) := by decide +kernel
theorem dRM_init_135 : decode bRM_init 135 = .ok (.putfield 78, 3) := by decide +kernel
theorem dRM_init_138 : decode bRM_init 138 = .ok (.aload_n 0, 1) := by decide +kernel
theorem dRM_init_139 : decode bRM_init 139 = .ok (.iconst 0, 1) := by decide +kernel
theorem dRM_init_140 : decode bRM_init 140 = .ok (.putfield 81, 3) := by decide +kernel
theorem dRM_init_143 : decode bRM_init 143 = .ok (.return_, 1) := by decide +kernel
theorem dRM_feed_0 : decode bRM_feed 0 = .ok (.aload_n 0, 1) := by decide +kernel
theorem dRM_feed_1 : decode bRM_feed 1 = .ok (.getfield 12, 3) := by decide +kernel
theorem dRM_feed_4 : decode bRM_feed 4 = .ok (.bipush 20, 2) := by decide +kernel
theorem dRM_feed_6 : decode bRM_feed 6 = .ok (.invokevirtual 85, 3) := by decide +kernel
theorem dRM_feed_9 : decode bRM_feed 9 = .ok (.ifCond .ne 5, 3) := by decide +kernel
theorem dRM_feed_12 : decode bRM_feed 12 = .ok (.iconst (-1), 1) := by decide +kernel
theorem dRM_feed_13 : decode bRM_feed 13 = .ok (.ireturn, 1) := by decide +kernel
theorem dRM_feed_14 : decode bRM_feed 14 = .ok (.aload_n 0, 1) := by decide +kernel
theorem dRM_feed_15 : decode bRM_feed 15 = .ok (.getfield 12, 3) := by decide +kernel
theorem dRM_feed_18 : decode bRM_feed 18 = .ok (.iload_n 1, 1) := by decide +kernel
theorem dRM_feed_19 : decode bRM_feed 19 = .ok (.invokevirtual 89, 3) := by decide +kernel
theorem dRM_feed_22 : decode bRM_feed 22 = .ok (.aload_n 0, 1) := by decide +kernel
theorem dRM_feed_23 : decode bRM_feed 23 = .ok (.getfield 12, 3) := by decide +kernel
theorem dRM_feed_26 : decode bRM_feed 26 = .ok (.iload_n 2, 1) := by decide +kernel
theorem dRM_feed_27 : decode bRM_feed 27 = .ok (.invokevirtual 89, 3) := by decide +kernel
theorem dRM_feed_30 : decode bRM_feed 30 = .ok (.aload_n 0, 1) := by decide +kernel
theorem dRM_feed_31 : decode bRM_feed 31 = .ok (.getfield 12, 3) := by decide +kernel
theorem dRM_feed_34 : decode bRM_feed 34 = .ok (.iload_n 3, 1) := by decide +kernel
theorem dRM_feed_35 : decode bRM_feed 35 = .ok (.invokevirtual 89, 3) := by decide +kernel
theorem dRM_feed_38 : decode bRM_feed 38 = .ok (.aload_n 0, 1) := by decide +kernel
theorem dRM_feed_39 : decode bRM_feed 39 = .ok (.getfield 12, 3) := by decide +kernel
theorem dRM_feed_42 : decode bRM_feed 42 = .ok (.iload 4, 2) := by decide +kernel
theorem dRM_feed_44 : decode bRM_feed 44 = .ok (.invokevirtual 89, 3) := by decide +kernel
theorem dRM_feed_47 : decode bRM_feed 47 = .ok (.aload_n 0, 1) := by decide +kernel
theorem dRM_feed_48 : decode bRM_feed 48 = .ok (.getfield 12, 3) := by decide +kernel
theorem dRM_feed_51 : decode bRM_feed 51 = .ok (.iload 5, 2) := by decide +kernel
theorem dRM_feed_53 : decode bRM_feed 53 = .ok (.invokevirtual 89, 3) := by decide +kernel
theorem dRM_feed_56 : decode bRM_feed 56 = .ok (.aload_n 0, 1) := by decide +kernel
theorem dRM_feed_57 : decode bRM_feed 57 = .ok (.getfield 12, 3) := by decide +kernel
theorem dRM_feed_60 : decode bRM_feed 60 = .ok (.getfield 93, 3) := by decide +kernel
theorem dRM_feed_63 : decode bRM_feed 63 = .ok (.ireturn, 1) := by decide +kernel
theorem dRM_mill_0 : decode bRM_mill 0 = .ok (.iload_n 1, 1) := by decide +kernel
theorem dRM_mill_1 : decode bRM_mill 1 = .ok (.ifCond .lt 14, 3) := by decide +kernel
theorem dRM_mill_4 : decode bRM_mill 4 = .ok (.iload_n 1, 1) := by decide +kernel
theorem dRM_mill_5 : decode bRM_mill 5 = .ok (.aload_n 0, 1) := by decide +kernel
theorem dRM_mill_6 : decode bRM_mill 6 = .ok (.getfield 12, 3) := by decide +kernel
theorem dRM_mill_9 : decode bRM_mill 9 = .ok (.getfield 93, 3) := by decide +kernel
theorem dRM_mill_12 : decode bRM_mill 12 = .ok (.if_icmp .le 9, 3) := by decide +kernel
theorem dRM_mill_15 : decode bRM_mill 15 = .ok (.aload_n 0, 1) := by decide +kernel
theorem dRM_mill_16 : decode bRM_mill 16 = .ok (.iconst 2, 1) := by decide +kernel
theorem dRM_mill_17 : decode bRM_mill 17 = .ok (.invokevirtual 96, 3) := by decide +kernel
theorem dRM_mill_20 : decode bRM_mill 20 = .ok (.ireturn, 1) := by decide +kernel
theorem dRM_mill_21 : decode bRM_mill 21 = .ok (.aload_n 0, 1) := by decide +kernel
theorem dRM_mill_22 : decode bRM_mill 22 = .ok (.getfield 12, 3) := by decide +kernel
theorem dRM_mill_25 : decode bRM_mill 25 = .ok (.iload_n 1, 1) := by decide +kernel
theorem dRM_mill_26 : decode bRM_mill 26 = .ok (.aload_n 0, 1) := by decide +kernel
theorem dRM_mill_27 : decode bRM_mill 27 = .ok (.getfield 23, 3) := by decide +kernel
theorem dRM_mill_30 : decode bRM_mill 30 = .ok (.invokevirtual 100, 3) := by decide +kernel
theorem dRM_mill_33 : decode bRM_mill 33 = .ok (.istore_n 2, 1) := by decide +kernel
theorem dRM_mill_34 : decode bRM_mill 34 = .ok (.aload_n 0, 1) := by decide +kernel
theorem dRM_mill_35 : decode bRM_mill 35 = .ok (.getfield 12, 3) := by decide +kernel
theorem dRM_mill_38 : decode bRM_mill 38 = .ok (.iconst 0, 1) := by decide +kernel
theorem dRM_mill_39 : decode bRM_mill 39 = .ok (.putfield 93, 3) := by decide +kernel
theorem dRM_mill_42 : decode bRM_mill 42 = .ok (.aload_n 0, 1) := by decide +kernel
theorem dRM_mill_43 : decode bRM_mill 43 = .ok (.aload_n 0, 1) := by decide +kernel
theorem dRM_mill_44 : decode bRM_mill 44 = .ok (.getfield 12, 3) := by decide +kernel
theorem dRM_mill_47 : decode bRM_mill 47 = .ok (.getfield 104, 3) := by decide +kernel
theorem dRM_mill_50 : decode bRM_mill 50 = .ok (.putfield 107, 3) := by decide +kernel
theorem dRM_mill_53 : decode bRM_mill 53 = .ok (.aload_n 0, 1) := by decide +kernel
theorem dRM_mill_54 : decode bRM_mill 54 = .ok (.aload_n 0, 1) := by decide +kernel
theorem dRM_mill_55 : decode bRM_mill 55 = .ok (.getfield 12, 3) := by decide +kernel
theorem dRM_mill_58 : decode bRM_mill 58 = .ok (.getfield 110, 3) := by decide +kernel
theorem dRM_mill_61 : decode bRM_mill 61 = .ok (.putfield 113, 3) := by decide +kernel
theorem dRM_mill_64 : decode bRM_mill 64 = .ok (.iload_n 2, 1) := by decide +kernel
theorem dRM_mill_65 : decode bRM_mill 65 = .ok (.ifCond .ne 9, 3) := by decide +kernel
theorem dRM_mill_68 : decode bRM_mill 68 = .ok (.aload_n 0, 1) := by decide +kernel
theorem dRM_mill_69 : decode bRM_mill 69 = .ok (.iconst 4, 1) := by decide +kernel
theorem dRM_mill_70 : decode bRM_mill 70 = .ok (.invokevirtual 96, 3) := by decide +kernel
theorem dRM_mill_73 : decode bRM_mill 73 = .ok (.ireturn, 1) := by decide +kernel
theorem dRM_mill_74 : decode bRM_mill 74 = .ok (.aload_n 0, 1) := by decide +kernel
theorem dRM_mill_75 : decode bRM_mill 75 = .ok (.getfield 19, 3) := by decide +kernel
theorem dRM_mill_78 : decode bRM_mill 78 = .ok (.astore_n 3, 1) := by decide +kernel
theorem dRM_mill_79 : decode bRM_mill 79 = .ok (.aload_n 0, 1) := by decide +kernel
theorem dRM_mill_80 : decode bRM_mill 80 = .ok (.aload_n 0, 1) := by decide +kernel
theorem dRM_mill_81 : decode bRM_mill 81 = .ok (.getfield 23, 3) := by decide +kernel
theorem dRM_mill_84 : decode bRM_mill 84 = .ok (.putfield 19, 3) := by decide +kernel
theorem dRM_mill_87 : decode bRM_mill 87 = .ok (.aload_n 0, 1) := by decide +kernel
theorem dRM_mill_88 : decode bRM_mill 88 = .ok (.aload_n 3, 1) := by decide +kernel
theorem dRM_mill_89 : decode bRM_mill 89 = .ok (.putfield 23, 3) := by decide +kernel
theorem dRM_mill_92 : decode bRM_mill 92 = .ok (.aload_n 0, 1) := by decide +kernel
theorem dRM_mill_93 : decode bRM_mill 93 = .ok (.invokevirtual 116, 3) := by decide +kernel
theorem dRM_mill_96 : decode bRM_mill 96 = .ok (.aload_n 0, 1) := by decide +kernel
theorem dRM_mill_97 : decode bRM_mill 97 = .ok (.aload_n 0, 1) := by decide +kernel
theorem dRM_mill_98 : decode bRM_mill 98 = .ok (.getfield 19, 3) := by decide +kernel
theorem dRM_mill_101 : decode bRM_mill 101 = .ok (.getfield 119, 3) := by decide +kernel
theorem dRM_mill_104 : decode bRM_mill 104 = .ok (.invokevirtual 122, 3) := by decide +kernel
theorem dRM_mill_107 : decode bRM_mill 107 = .ok (.ireturn, 1) := by decide +kernel
theorem dRM_fault_0 : decode bRM_fault 0 = .ok (.aload_n 0, 1) := by decide +kernel
theorem dRM_fault_1 : decode bRM_fault 1 = .ok (.getfield 107, 3) := by decide +kernel
theorem dRM_fault_4 : decode bRM_fault 4 = .ok (.ireturn, 1) := by decide +kernel
theorem dRM_where_0 : decode bRM_where 0 = .ok (.aload_n 0, 1) := by decide +kernel
theorem dRM_where_1 : decode bRM_where 1 = .ok (.getfield 81, 3) := by decide +kernel
theorem dRM_where_4 : decode bRM_where 4 = .ok (.iconst 4, 1) := by decide +kernel
theorem dRM_where_5 : decode bRM_where 5 = .ok (.if_icmp .ne 10, 3) := by decide +kernel
theorem dRM_where_8 : decode bRM_where 8 = .ok (.aload_n 0, 1) := by decide +kernel
theorem dRM_where_9 : decode bRM_where 9 = .ok (.getfield 113, 3) := by decide +kernel
theorem dRM_where_12 : decode bRM_where 12 = .ok (.goto 4, 3) := by decide +kernel
theorem dRM_where_15 : decode bRM_where 15 = .ok (.iconst (-1), 1) := by decide +kernel
theorem dRM_where_16 : decode bRM_where 16 = .ok (.ireturn, 1) := by decide +kernel
theorem dRM_set_0 : decode bRM_set 0 = .ok (.aload_n 0, 1) := by decide +kernel
theorem dRM_set_1 : decode bRM_set 1 = .ok (.iload_n 3, 1) := by decide +kernel
theorem dRM_set_2 : decode bRM_set 2 = .ok (.invokevirtual 125, 3) := by decide +kernel
theorem dRM_set_5 : decode bRM_set 5 = .ok (.ifCond .ne 9, 3) := by decide +kernel
theorem dRM_set_8 : decode bRM_set 8 = .ok (.aload_n 0, 1) := by decide +kernel
theorem dRM_set_9 : decode bRM_set 9 = .ok (.iconst 1, 1) := by decide +kernel
theorem dRM_set_10 : decode bRM_set 10 = .ok (.invokevirtual 128, 3) := by decide +kernel
theorem dRM_set_13 : decode bRM_set 13 = .ok (.ireturn, 1) := by decide +kernel
theorem dRM_set_14 : decode bRM_set 14 = .ok (.iload_n 1, 1) := by decide +kernel
theorem dRM_set_15 : decode bRM_set 15 = .ok (.invokestatic 131, 3) := by decide +kernel
theorem dRM_set_18 : decode bRM_set 18 = .ok (.ifCond .eq 10, 3) := by decide +kernel
theorem dRM_set_21 : decode bRM_set 21 = .ok (.iload_n 2, 1) := by decide +kernel
theorem dRM_set_22 : decode bRM_set 22 = .ok (.invokestatic 134, 3) := by decide +kernel
theorem dRM_set_25 : decode bRM_set 25 = .ok (.ifCond .ne 9, 3) := by decide +kernel
theorem dRM_set_28 : decode bRM_set 28 = .ok (.aload_n 0, 1) := by decide +kernel
theorem dRM_set_29 : decode bRM_set 29 = .ok (.iconst 2, 1) := by decide +kernel
theorem dRM_set_30 : decode bRM_set 30 = .ok (.invokevirtual 128, 3) := by decide +kernel
theorem dRM_set_33 : decode bRM_set 33 = .ok (.ireturn, 1) := by decide +kernel
theorem dRM_set_34 : decode bRM_set 34 = .ok (.aload_n 0, 1) := by decide +kernel
theorem dRM_set_35 : decode bRM_set 35 = .ok (.getfield 33, 3) := by decide +kernel
theorem dRM_set_38 : decode bRM_set 38 = .ok (.iconst 0, 1) := by decide +kernel
theorem dRM_set_39 : decode bRM_set 39 = .ok (.iload_n 1, 1) := by decide +kernel
theorem dRM_set_40 : decode bRM_set 40 = .ok (.iastore, 1) := by decide +kernel
theorem dRM_set_41 : decode bRM_set 41 = .ok (.aload_n 0, 1) := by decide +kernel
theorem dRM_set_42 : decode bRM_set 42 = .ok (.getfield 33, 3) := by decide +kernel
theorem dRM_set_45 : decode bRM_set 45 = .ok (.iconst 1, 1) := by decide +kernel
theorem dRM_set_46 : decode bRM_set 46 = .ok (.iload_n 2, 1) := by decide +kernel
theorem dRM_set_47 : decode bRM_set 47 = .ok (.iastore, 1) := by decide +kernel
theorem dRM_set_48 : decode bRM_set 48 = .ok (.aload_n 0, 1) := by decide +kernel
theorem dRM_set_49 : decode bRM_set 49 = .ok (.getfield 33, 3) := by decide +kernel
theorem dRM_set_52 : decode bRM_set 52 = .ok (.iconst 2, 1) := by decide +kernel
theorem dRM_set_53 : decode bRM_set 53 = .ok (.iload_n 3, 1) := by decide +kernel
theorem dRM_set_54 : decode bRM_set 54 = .ok (.iastore, 1) := by decide +kernel
theorem dRM_set_55 : decode bRM_set 55 = .ok (.aload_n 0, 1) := by decide +kernel
theorem dRM_set_56 : decode bRM_set 56 = .ok (.invokevirtual 137, 3) := by decide +kernel
theorem dRM_set_59 : decode bRM_set 59 = .ok (.ireturn, 1) := by decide +kernel
theorem dRM_mend_0 : decode bRM_mend 0 = .ok (.aload_n 0, 1) := by decide +kernel
theorem dRM_mend_1 : decode bRM_mend 1 = .ok (.invokevirtual 141, 3) := by decide +kernel
theorem dRM_mend_4 : decode bRM_mend 4 = .ok (.ifCond .eq 9, 3) := by decide +kernel
theorem dRM_mend_7 : decode bRM_mend 7 = .ok (.aload_n 0, 1) := by decide +kernel
theorem dRM_mend_8 : decode bRM_mend 8 = .ok (.iconst 1, 1) := by decide +kernel
theorem dRM_mend_9 : decode bRM_mend 9 = .ok (.invokevirtual 128, 3) := by decide +kernel
theorem dRM_mend_12 : decode bRM_mend 12 = .ok (.ireturn, 1) := by decide +kernel
theorem dRM_mend_13 : decode bRM_mend 13 = .ok (.iload_n 1, 1) := by decide +kernel
theorem dRM_mend_14 : decode bRM_mend 14 = .ok (.ifCond .lt 8, 3) := by decide +kernel
theorem dRM_mend_17 : decode bRM_mend 17 = .ok (.iload_n 1, 1) := by decide +kernel
theorem dRM_mend_18 : decode bRM_mend 18 = .ok (.iconst 3, 1) := by decide +kernel
theorem dRM_mend_19 : decode bRM_mend 19 = .ok (.if_icmp .le 9, 3) := by decide +kernel
theorem dRM_mend_22 : decode bRM_mend 22 = .ok (.aload_n 0, 1) := by decide +kernel
theorem dRM_mend_23 : decode bRM_mend 23 = .ok (.iconst 2, 1) := by decide +kernel
theorem dRM_mend_24 : decode bRM_mend 24 = .ok (.invokevirtual 128, 3) := by decide +kernel
theorem dRM_mend_27 : decode bRM_mend 27 = .ok (.ireturn, 1) := by decide +kernel
theorem dRM_mend_28 : decode bRM_mend 28 = .ok (.aload_n 0, 1) := by decide +kernel
theorem dRM_mend_29 : decode bRM_mend 29 = .ok (.getfield 29, 3) := by decide +kernel
theorem dRM_mend_32 : decode bRM_mend 32 = .ok (.iload_n 1, 1) := by decide +kernel
theorem dRM_mend_33 : decode bRM_mend 33 = .ok (.putfield 144, 3) := by decide +kernel
theorem dRM_mend_36 : decode bRM_mend 36 = .ok (.iload_n 2, 1) := by decide +kernel
theorem dRM_mend_37 : decode bRM_mend 37 = .ok (.ifCond .eq 11, 3) := by decide +kernel
theorem dRM_mend_40 : decode bRM_mend 40 = .ok (.aload_n 0, 1) := by decide +kernel
theorem dRM_mend_41 : decode bRM_mend 41 = .ok (.getfield 29, 3) := by decide +kernel
theorem dRM_mend_44 : decode bRM_mend 44 = .ok (.iconst 0, 1) := by decide +kernel
theorem dRM_mend_45 : decode bRM_mend 45 = .ok (.putfield 147, 3) := by decide +kernel
theorem dRM_mend_48 : decode bRM_mend 48 = .ok (.aload_n 0, 1) := by decide +kernel
theorem dRM_mend_49 : decode bRM_mend 49 = .ok (.invokevirtual 137, 3) := by decide +kernel
theorem dRM_mend_52 : decode bRM_mend 52 = .ok (.ireturn, 1) := by decide +kernel
theorem dRM_go_0 : decode bRM_go 0 = .ok (.aload_n 0, 1) := by decide +kernel
theorem dRM_go_1 : decode bRM_go 1 = .ok (.invokevirtual 141, 3) := by decide +kernel
theorem dRM_go_4 : decode bRM_go 4 = .ok (.ifCond .eq 9, 3) := by decide +kernel
theorem dRM_go_7 : decode bRM_go 7 = .ok (.aload_n 0, 1) := by decide +kernel
theorem dRM_go_8 : decode bRM_go 8 = .ok (.iconst 1, 1) := by decide +kernel
theorem dRM_go_9 : decode bRM_go 9 = .ok (.invokevirtual 96, 3) := by decide +kernel
theorem dRM_go_12 : decode bRM_go 12 = .ok (.ireturn, 1) := by decide +kernel
theorem dRM_go_13 : decode bRM_go 13 = .ok (.iload_n 1, 1) := by decide +kernel
theorem dRM_go_14 : decode bRM_go 14 = .ok (.iconst 1, 1) := by decide +kernel
theorem dRM_go_15 : decode bRM_go 15 = .ok (.if_icmp .lt 9, 3) := by decide +kernel
theorem dRM_go_18 : decode bRM_go 18 = .ok (.iload_n 1, 1) := by decide +kernel
theorem dRM_go_19 : decode bRM_go 19 = .ok (.bipush 24, 2) := by decide +kernel
theorem dRM_go_21 : decode bRM_go 21 = .ok (.if_icmp .le 9, 3) := by decide +kernel
theorem dRM_go_24 : decode bRM_go 24 = .ok (.aload_n 0, 1) := by decide +kernel
theorem dRM_go_25 : decode bRM_go 25 = .ok (.iconst 2, 1) := by decide +kernel
theorem dRM_go_26 : decode bRM_go 26 = .ok (.invokevirtual 96, 3) := by decide +kernel
theorem dRM_go_29 : decode bRM_go 29 = .ok (.ireturn, 1) := by decide +kernel
theorem dRM_go_30 : decode bRM_go 30 = .ok (.aload_n 0, 1) := by decide +kernel
theorem dRM_go_31 : decode bRM_go 31 = .ok (.getfield 29, 3) := by decide +kernel
theorem dRM_go_34 : decode bRM_go 34 = .ok (.getfield 150, 3) := by decide +kernel
theorem dRM_go_37 : decode bRM_go 37 = .ok (.iload_n 1, 1) := by decide +kernel
theorem dRM_go_38 : decode bRM_go 38 = .ok (.iadd, 1) := by decide +kernel
theorem dRM_go_39 : decode bRM_go 39 = .ok (.sipush 240, 3) := by decide +kernel
theorem dRM_go_42 : decode bRM_go 42 = .ok (.if_icmp .le 9, 3) := by decide +kernel
theorem dRM_go_45 : decode bRM_go 45 = .ok (.aload_n 0, 1) := by decide +kernel
theorem dRM_go_46 : decode bRM_go 46 = .ok (.iconst 3, 1) := by decide +kernel
theorem dRM_go_47 : decode bRM_go 47 = .ok (.invokevirtual 96, 3) := by decide +kernel
theorem dRM_go_50 : decode bRM_go 50 = .ok (.ireturn, 1) := by decide +kernel
theorem dRM_go_51 : decode bRM_go 51 = .ok (.iconst 0, 1) := by decide +kernel
theorem dRM_go_52 : decode bRM_go 52 = .ok (.istore_n 2, 1) := by decide +kernel
theorem dRM_go_53 : decode bRM_go 53 = .ok (.iconst 0, 1) := by decide +kernel
theorem dRM_go_54 : decode bRM_go 54 = .ok (.istore_n 3, 1) := by decide +kernel
theorem dRM_go_55 : decode bRM_go 55 = .ok (.iload_n 3, 1) := by decide +kernel
theorem dRM_go_56 : decode bRM_go 56 = .ok (.iload_n 1, 1) := by decide +kernel
theorem dRM_go_57 : decode bRM_go 57 = .ok (.if_icmp .ge 56, 3) := by decide +kernel
theorem dRM_go_60 : decode bRM_go 60 = .ok (.aload_n 0, 1) := by decide +kernel
theorem dRM_go_61 : decode bRM_go 61 = .ok (.getfield 29, 3) := by decide +kernel
theorem dRM_go_64 : decode bRM_go 64 = .ok (.getfield 150, 3) := by decide +kernel
theorem dRM_go_67 : decode bRM_go 67 = .ok (.istore 4, 2) := by decide +kernel
theorem dRM_go_69 : decode bRM_go 69 = .ok (.aload_n 0, 1) := by decide +kernel
theorem dRM_go_70 : decode bRM_go 70 = .ok (.getfield 29, 3) := by decide +kernel
theorem dRM_go_73 : decode bRM_go 73 = .ok (.aload_n 0, 1) := by decide +kernel
theorem dRM_go_74 : decode bRM_go 74 = .ok (.getfield 19, 3) := by decide +kernel
theorem dRM_go_77 : decode bRM_go 77 = .ok (.aload_n 0, 1) := by decide +kernel
theorem dRM_go_78 : decode bRM_go 78 = .ok (.getfield 33, 3) := by decide +kernel
theorem dRM_go_81 : decode bRM_go 81 = .ok (.iconst 0, 1) := by decide +kernel
theorem dRM_go_82 : decode bRM_go 82 = .ok (.invokevirtual 153, 3) := by decide +kernel
theorem dRM_go_85 : decode bRM_go 85 = .ok (.aload_n 0, 1) := by decide +kernel
theorem dRM_go_86 : decode bRM_go 86 = .ok (.getfield 29, 3) := by decide +kernel
theorem dRM_go_89 : decode bRM_go 89 = .ok (.getfield 157, 3) := by decide +kernel
theorem dRM_go_92 : decode bRM_go 92 = .ok (.ifCond .eq 12, 3) := by decide +kernel
theorem dRM_go_95 : decode bRM_go 95 = .ok (.aload_n 0, 1) := by decide +kernel
theorem dRM_go_96 : decode bRM_go 96 = .ok (.iload 4, 2) := by decide +kernel
theorem dRM_go_98 : decode bRM_go 98 = .ok (.invokevirtual 161, 3) := by decide +kernel
theorem dRM_go_101 : decode bRM_go 101 = .ok (.goto 6, 3) := by decide +kernel
theorem dRM_go_104 : decode bRM_go 104 = .ok (.iinc 2 1, 3) := by decide +kernel
theorem dRM_go_107 : decode bRM_go 107 = .ok (.iinc 3 1, 3) := by decide +kernel
theorem dRM_go_110 : decode bRM_go 110 = .ok (.goto (-55), 3) := by decide +kernel
theorem dRM_go_113 : decode bRM_go 113 = .ok (.aload_n 0, 1) := by decide +kernel
theorem dRM_go_114 : decode bRM_go 114 = .ok (.iload_n 2, 1) := by decide +kernel
theorem dRM_go_115 : decode bRM_go 115 = .ok (.invokevirtual 122, 3) := by decide +kernel
theorem dRM_go_118 : decode bRM_go 118 = .ok (.ireturn, 1) := by decide +kernel
theorem dRM_tons_0 : decode bRM_tons 0 = .ok (.aload_n 0, 1) := by decide +kernel
theorem dRM_tons_1 : decode bRM_tons 1 = .ok (.iload_n 1, 1) := by decide +kernel
theorem dRM_tons_2 : decode bRM_tons 2 = .ok (.invokevirtual 164, 3) := by decide +kernel
theorem dRM_tons_5 : decode bRM_tons 5 = .ok (.ifCond .ne 5, 3) := by decide +kernel
theorem dRM_tons_8 : decode bRM_tons 8 = .ok (.iconst (-1), 1) := by decide +kernel
theorem dRM_tons_9 : decode bRM_tons 9 = .ok (.ireturn, 1) := by decide +kernel
theorem dRM_tons_10 : decode bRM_tons 10 = .ok (.iload_n 2, 1) := by decide +kernel
theorem dRM_tons_11 : decode bRM_tons 11 = .ok (.tableswitch 78 0 3 #[29, 42, 55, 68], 29) := by decide +kernel
theorem dRM_tons_40 : decode bRM_tons 40 = .ok (.aload_n 0, 1) := by decide +kernel
theorem dRM_tons_41 : decode bRM_tons 41 = .ok (.getfield 29, 3) := by decide +kernel
theorem dRM_tons_44 : decode bRM_tons 44 = .ok (.getfield 167, 3) := by decide +kernel
theorem dRM_tons_47 : decode bRM_tons 47 = .ok (.getfield 170, 3) := by decide +kernel
theorem dRM_tons_50 : decode bRM_tons 50 = .ok (.iload_n 1, 1) := by decide +kernel
theorem dRM_tons_51 : decode bRM_tons 51 = .ok (.iaload, 1) := by decide +kernel
theorem dRM_tons_52 : decode bRM_tons 52 = .ok (.ireturn, 1) := by decide +kernel
theorem dRM_tons_53 : decode bRM_tons 53 = .ok (.aload_n 0, 1) := by decide +kernel
theorem dRM_tons_54 : decode bRM_tons 54 = .ok (.getfield 29, 3) := by decide +kernel
theorem dRM_tons_57 : decode bRM_tons 57 = .ok (.getfield 167, 3) := by decide +kernel
theorem dRM_tons_60 : decode bRM_tons 60 = .ok (.getfield 173, 3) := by decide +kernel
theorem dRM_tons_63 : decode bRM_tons 63 = .ok (.iload_n 1, 1) := by decide +kernel
theorem dRM_tons_64 : decode bRM_tons 64 = .ok (.iaload, 1) := by decide +kernel
theorem dRM_tons_65 : decode bRM_tons 65 = .ok (.ireturn, 1) := by decide +kernel
theorem dRM_tons_66 : decode bRM_tons 66 = .ok (.aload_n 0, 1) := by decide +kernel
theorem dRM_tons_67 : decode bRM_tons 67 = .ok (.getfield 29, 3) := by decide +kernel
theorem dRM_tons_70 : decode bRM_tons 70 = .ok (.getfield 167, 3) := by decide +kernel
theorem dRM_tons_73 : decode bRM_tons 73 = .ok (.getfield 176, 3) := by decide +kernel
theorem dRM_tons_76 : decode bRM_tons 76 = .ok (.iload_n 1, 1) := by decide +kernel
theorem dRM_tons_77 : decode bRM_tons 77 = .ok (.iaload, 1) := by decide +kernel
theorem dRM_tons_78 : decode bRM_tons 78 = .ok (.ireturn, 1) := by decide +kernel
theorem dRM_tons_79 : decode bRM_tons 79 = .ok (.aload_n 0, 1) := by decide +kernel
theorem dRM_tons_80 : decode bRM_tons 80 = .ok (.getfield 29, 3) := by decide +kernel
theorem dRM_tons_83 : decode bRM_tons 83 = .ok (.getfield 179, 3) := by decide +kernel
theorem dRM_tons_86 : decode bRM_tons 86 = .ok (.iload_n 1, 1) := by decide +kernel
theorem dRM_tons_87 : decode bRM_tons 87 = .ok (.iaload, 1) := by decide +kernel
theorem dRM_tons_88 : decode bRM_tons 88 = .ok (.ireturn, 1) := by decide +kernel
theorem dRM_tons_89 : decode bRM_tons 89 = .ok (.iconst (-1), 1) := by decide +kernel
theorem dRM_tons_90 : decode bRM_tons 90 = .ok (.ireturn, 1) := by decide +kernel
theorem dRM_state_0 : decode bRM_state 0 = .ok (.iload_n 1, 1) := by decide +kernel
theorem dRM_state_1 : decode bRM_state 1 = .ok (.tableswitch 224 0 16 #[83, 91, 99, 107, 115, 123, 131, 147, 155, 163, 171, 179, 187, 195, 203, 210, 217], 83) := by decide +kernel
theorem dRM_state_84 : decode bRM_state 84 = .ok (.aload_n 0, 1) := by decide +kernel
theorem dRM_state_85 : decode bRM_state 85 = .ok (.getfield 29, 3) := by decide +kernel
theorem dRM_state_88 : decode bRM_state 88 = .ok (.getfield 182, 3) := by decide +kernel
theorem dRM_state_91 : decode bRM_state 91 = .ok (.ireturn, 1) := by decide +kernel
theorem dRM_state_92 : decode bRM_state 92 = .ok (.aload_n 0, 1) := by decide +kernel
theorem dRM_state_93 : decode bRM_state 93 = .ok (.getfield 29, 3) := by decide +kernel
theorem dRM_state_96 : decode bRM_state 96 = .ok (.getfield 185, 3) := by decide +kernel
theorem dRM_state_99 : decode bRM_state 99 = .ok (.ireturn, 1) := by decide +kernel
theorem dRM_state_100 : decode bRM_state 100 = .ok (.aload_n 0, 1) := by decide +kernel
theorem dRM_state_101 : decode bRM_state 101 = .ok (.getfield 29, 3) := by decide +kernel
theorem dRM_state_104 : decode bRM_state 104 = .ok (.getfield 188, 3) := by decide +kernel
theorem dRM_state_107 : decode bRM_state 107 = .ok (.ireturn, 1) := by decide +kernel
theorem dRM_state_108 : decode bRM_state 108 = .ok (.aload_n 0, 1) := by decide +kernel
theorem dRM_state_109 : decode bRM_state 109 = .ok (.getfield 29, 3) := by decide +kernel
theorem dRM_state_112 : decode bRM_state 112 = .ok (.getfield 191, 3) := by decide +kernel
theorem dRM_state_115 : decode bRM_state 115 = .ok (.ireturn, 1) := by decide +kernel
theorem dRM_state_116 : decode bRM_state 116 = .ok (.aload_n 0, 1) := by decide +kernel
theorem dRM_state_117 : decode bRM_state 117 = .ok (.getfield 29, 3) := by decide +kernel
theorem dRM_state_120 : decode bRM_state 120 = .ok (.getfield 147, 3) := by decide +kernel
theorem dRM_state_123 : decode bRM_state 123 = .ok (.ireturn, 1) := by decide +kernel
theorem dRM_state_124 : decode bRM_state 124 = .ok (.aload_n 0, 1) := by decide +kernel
theorem dRM_state_125 : decode bRM_state 125 = .ok (.getfield 29, 3) := by decide +kernel
theorem dRM_state_128 : decode bRM_state 128 = .ok (.getfield 144, 3) := by decide +kernel
theorem dRM_state_131 : decode bRM_state 131 = .ok (.ireturn, 1) := by decide +kernel
theorem dRM_state_132 : decode bRM_state 132 = .ok (.aload_n 0, 1) := by decide +kernel
theorem dRM_state_133 : decode bRM_state 133 = .ok (.getfield 29, 3) := by decide +kernel
theorem dRM_state_136 : decode bRM_state 136 = .ok (.getfield 157, 3) := by decide +kernel
theorem dRM_state_139 : decode bRM_state 139 = .ok (.ifCond .eq 7, 3) := by decide +kernel
theorem dRM_state_142 : decode bRM_state 142 = .ok (.iconst 1, 1) := by decide +kernel
theorem dRM_state_143 : decode bRM_state 143 = .ok (.goto 4, 3) := by decide +kernel
theorem dRM_state_146 : decode bRM_state 146 = .ok (.iconst 0, 1) := by decide +kernel
theorem dRM_state_147 : decode bRM_state 147 = .ok (.ireturn, 1) := by decide +kernel
theorem dRM_state_148 : decode bRM_state 148 = .ok (.aload_n 0, 1) := by decide +kernel
theorem dRM_state_149 : decode bRM_state 149 = .ok (.getfield 29, 3) := by decide +kernel
theorem dRM_state_152 : decode bRM_state 152 = .ok (.getfield 150, 3) := by decide +kernel
theorem dRM_state_155 : decode bRM_state 155 = .ok (.ireturn, 1) := by decide +kernel
theorem dRM_state_156 : decode bRM_state 156 = .ok (.aload_n 0, 1) := by decide +kernel
theorem dRM_state_157 : decode bRM_state 157 = .ok (.getfield 29, 3) := by decide +kernel
theorem dRM_state_160 : decode bRM_state 160 = .ok (.getfield 194, 3) := by decide +kernel
theorem dRM_state_163 : decode bRM_state 163 = .ok (.ireturn, 1) := by decide +kernel
theorem dRM_state_164 : decode bRM_state 164 = .ok (.aload_n 0, 1) := by decide +kernel
theorem dRM_state_165 : decode bRM_state 165 = .ok (.getfield 29, 3) := by decide +kernel
theorem dRM_state_168 : decode bRM_state 168 = .ok (.getfield 197, 3) := by decide +kernel
theorem dRM_state_171 : decode bRM_state 171 = .ok (.ireturn, 1) := by decide +kernel
theorem dRM_state_172 : decode bRM_state 172 = .ok (.aload_n 0, 1) := by decide +kernel
theorem dRM_state_173 : decode bRM_state 173 = .ok (.getfield 29, 3) := by decide +kernel
theorem dRM_state_176 : decode bRM_state 176 = .ok (.getfield 200, 3) := by decide +kernel
theorem dRM_state_179 : decode bRM_state 179 = .ok (.ireturn, 1) := by decide +kernel
theorem dRM_state_180 : decode bRM_state 180 = .ok (.aload_n 0, 1) := by decide +kernel
theorem dRM_state_181 : decode bRM_state 181 = .ok (.getfield 29, 3) := by decide +kernel
theorem dRM_state_184 : decode bRM_state 184 = .ok (.getfield 203, 3) := by decide +kernel
theorem dRM_state_187 : decode bRM_state 187 = .ok (.ireturn, 1) := by decide +kernel
theorem dRM_state_188 : decode bRM_state 188 = .ok (.aload_n 0, 1) := by decide +kernel
theorem dRM_state_189 : decode bRM_state 189 = .ok (.getfield 29, 3) := by decide +kernel
theorem dRM_state_192 : decode bRM_state 192 = .ok (.getfield 206, 3) := by decide +kernel
theorem dRM_state_195 : decode bRM_state 195 = .ok (.ireturn, 1) := by decide +kernel
theorem dRM_state_196 : decode bRM_state 196 = .ok (.aload_n 0, 1) := by decide +kernel
theorem dRM_state_197 : decode bRM_state 197 = .ok (.getfield 29, 3) := by decide +kernel
theorem dRM_state_200 : decode bRM_state 200 = .ok (.getfield 209, 3) := by decide +kernel
theorem dRM_state_203 : decode bRM_state 203 = .ok (.ireturn, 1) := by decide +kernel
theorem dRM_state_204 : decode bRM_state 204 = .ok (.aload_n 0, 1) := by decide +kernel
theorem dRM_state_205 : decode bRM_state 205 = .ok (.getfield 33, 3) := by decide +kernel
theorem dRM_state_208 : decode bRM_state 208 = .ok (.iconst 0, 1) := by decide +kernel
theorem dRM_state_209 : decode bRM_state 209 = .ok (.iaload, 1) := by decide +kernel
theorem dRM_state_210 : decode bRM_state 210 = .ok (.ireturn, 1) := by decide +kernel
theorem dRM_state_211 : decode bRM_state 211 = .ok (.aload_n 0, 1) := by decide +kernel
theorem dRM_state_212 : decode bRM_state 212 = .ok (.getfield 33, 3) := by decide +kernel
theorem dRM_state_215 : decode bRM_state 215 = .ok (.iconst 1, 1) := by decide +kernel
theorem dRM_state_216 : decode bRM_state 216 = .ok (.iaload, 1) := by decide +kernel
theorem dRM_state_217 : decode bRM_state 217 = .ok (.ireturn, 1) := by decide +kernel
theorem dRM_state_218 : decode bRM_state 218 = .ok (.aload_n 0, 1) := by decide +kernel
theorem dRM_state_219 : decode bRM_state 219 = .ok (.getfield 33, 3) := by decide +kernel
theorem dRM_state_222 : decode bRM_state 222 = .ok (.iconst 2, 1) := by decide +kernel
theorem dRM_state_223 : decode bRM_state 223 = .ok (.iaload, 1) := by decide +kernel
theorem dRM_state_224 : decode bRM_state 224 = .ok (.ireturn, 1) := by decide +kernel
theorem dRM_state_225 : decode bRM_state 225 = .ok (.iconst (-1), 1) := by decide +kernel
theorem dRM_state_226 : decode bRM_state 226 = .ok (.ireturn, 1) := by decide +kernel
theorem dRM_program_0 : decode bRM_program 0 = .ok (.iload_n 1, 1) := by decide +kernel
theorem dRM_program_1 : decode bRM_program 1 = .ok (.invokestatic 212, 3) := by decide +kernel
theorem dRM_program_4 : decode bRM_program 4 = .ok (.ifCond .eq 12, 3) := by decide +kernel
theorem dRM_program_7 : decode bRM_program 7 = .ok (.aload_n 0, 1) := by decide +kernel
theorem dRM_program_8 : decode bRM_program 8 = .ok (.iload 4, 2) := by decide +kernel
theorem dRM_program_10 : decode bRM_program 10 = .ok (.invokevirtual 125, 3) := by decide +kernel
theorem dRM_program_13 : decode bRM_program 13 = .ok (.ifCond .ne 9, 3) := by decide +kernel
theorem dRM_program_16 : decode bRM_program 16 = .ok (.aload_n 0, 1) := by decide +kernel
theorem dRM_program_17 : decode bRM_program 17 = .ok (.iconst 1, 1) := by decide +kernel
theorem dRM_program_18 : decode bRM_program 18 = .ok (.invokevirtual 128, 3) := by decide +kernel
theorem dRM_program_21 : decode bRM_program 21 = .ok (.ireturn, 1) := by decide +kernel
theorem dRM_program_22 : decode bRM_program 22 = .ok (.iload_n 2, 1) := by decide +kernel
theorem dRM_program_23 : decode bRM_program 23 = .ok (.invokestatic 131, 3) := by decide +kernel
theorem dRM_program_26 : decode bRM_program 26 = .ok (.ifCond .eq 10, 3) := by decide +kernel
theorem dRM_program_29 : decode bRM_program 29 = .ok (.iload_n 3, 1) := by decide +kernel
theorem dRM_program_30 : decode bRM_program 30 = .ok (.invokestatic 134, 3) := by decide +kernel
theorem dRM_program_33 : decode bRM_program 33 = .ok (.ifCond .ne 9, 3) := by decide +kernel
theorem dRM_program_36 : decode bRM_program 36 = .ok (.aload_n 0, 1) := by decide +kernel
theorem dRM_program_37 : decode bRM_program 37 = .ok (.iconst 2, 1) := by decide +kernel
theorem dRM_program_38 : decode bRM_program 38 = .ok (.invokevirtual 128, 3) := by decide +kernel
theorem dRM_program_41 : decode bRM_program 41 = .ok (.ireturn, 1) := by decide +kernel
theorem dRM_program_42 : decode bRM_program 42 = .ok (.aload_n 0, 1) := by decide +kernel
theorem dRM_program_43 : decode bRM_program 43 = .ok (.getfield 37, 3) := by decide +kernel
theorem dRM_program_46 : decode bRM_program 46 = .ok (.iload_n 1, 1) := by decide +kernel
theorem dRM_program_47 : decode bRM_program 47 = .ok (.iconst 3, 1) := by decide +kernel
theorem dRM_program_48 : decode bRM_program 48 = .ok (.imul, 1) := by decide +kernel
theorem dRM_program_49 : decode bRM_program 49 = .ok (.iconst 0, 1) := by decide +kernel
theorem dRM_program_50 : decode bRM_program 50 = .ok (.iadd, 1) := by decide +kernel
theorem dRM_program_51 : decode bRM_program 51 = .ok (.iload_n 2, 1) := by decide +kernel
theorem dRM_program_52 : decode bRM_program 52 = .ok (.iastore, 1) := by decide +kernel
theorem dRM_program_53 : decode bRM_program 53 = .ok (.aload_n 0, 1) := by decide +kernel
theorem dRM_program_54 : decode bRM_program 54 = .ok (.getfield 37, 3) := by decide +kernel
theorem dRM_program_57 : decode bRM_program 57 = .ok (.iload_n 1, 1) := by decide +kernel
theorem dRM_program_58 : decode bRM_program 58 = .ok (.iconst 3, 1) := by decide +kernel
theorem dRM_program_59 : decode bRM_program 59 = .ok (.imul, 1) := by decide +kernel
theorem dRM_program_60 : decode bRM_program 60 = .ok (.iconst 1, 1) := by decide +kernel
theorem dRM_program_61 : decode bRM_program 61 = .ok (.iadd, 1) := by decide +kernel
theorem dRM_program_62 : decode bRM_program 62 = .ok (.iload_n 3, 1) := by decide +kernel
theorem dRM_program_63 : decode bRM_program 63 = .ok (.iastore, 1) := by decide +kernel
theorem dRM_program_64 : decode bRM_program 64 = .ok (.aload_n 0, 1) := by decide +kernel
theorem dRM_program_65 : decode bRM_program 65 = .ok (.getfield 37, 3) := by decide +kernel
theorem dRM_program_68 : decode bRM_program 68 = .ok (.iload_n 1, 1) := by decide +kernel
theorem dRM_program_69 : decode bRM_program 69 = .ok (.iconst 3, 1) := by decide +kernel
theorem dRM_program_70 : decode bRM_program 70 = .ok (.imul, 1) := by decide +kernel
theorem dRM_program_71 : decode bRM_program 71 = .ok (.iconst 2, 1) := by decide +kernel
theorem dRM_program_72 : decode bRM_program 72 = .ok (.iadd, 1) := by decide +kernel
theorem dRM_program_73 : decode bRM_program 73 = .ok (.iload 4, 2) := by decide +kernel
theorem dRM_program_75 : decode bRM_program 75 = .ok (.iastore, 1) := by decide +kernel
theorem dRM_program_76 : decode bRM_program 76 = .ok (.aload_n 0, 1) := by decide +kernel
theorem dRM_program_77 : decode bRM_program 77 = .ok (.getfield 43, 3) := by decide +kernel
theorem dRM_program_80 : decode bRM_program 80 = .ok (.invokevirtual 215, 3) := by decide +kernel
theorem dRM_program_83 : decode bRM_program 83 = .ok (.aload_n 0, 1) := by decide +kernel
theorem dRM_program_84 : decode bRM_program 84 = .ok (.getfield 50, 3) := by decide +kernel
theorem dRM_program_87 : decode bRM_program 87 = .ok (.iconst 0, 1) := by decide +kernel
theorem dRM_program_88 : decode bRM_program 88 = .ok (.putfield 218, 3) := by decide +kernel
theorem dRM_program_91 : decode bRM_program 91 = .ok (.aload_n 0, 1) := by decide +kernel
theorem dRM_program_92 : decode bRM_program 92 = .ok (.invokevirtual 137, 3) := by decide +kernel
theorem dRM_program_95 : decode bRM_program 95 = .ok (.ireturn, 1) := by decide +kernel
theorem dRM_seen_0 : decode bRM_seen 0 = .ok (.iload_n 1, 1) := by decide +kernel
theorem dRM_seen_1 : decode bRM_seen 1 = .ok (.invokestatic 212, 3) := by decide +kernel
theorem dRM_seen_4 : decode bRM_seen 4 = .ok (.ifCond .eq 11, 3) := by decide +kernel
theorem dRM_seen_7 : decode bRM_seen 7 = .ok (.aload_n 0, 1) := by decide +kernel
theorem dRM_seen_8 : decode bRM_seen 8 = .ok (.iload_n 2, 1) := by decide +kernel
theorem dRM_seen_9 : decode bRM_seen 9 = .ok (.invokevirtual 221, 3) := by decide +kernel
theorem dRM_seen_12 : decode bRM_seen 12 = .ok (.ifCond .ne 9, 3) := by decide +kernel
theorem dRM_seen_15 : decode bRM_seen 15 = .ok (.aload_n 0, 1) := by decide +kernel
theorem dRM_seen_16 : decode bRM_seen 16 = .ok (.iconst 1, 1) := by decide +kernel
theorem dRM_seen_17 : decode bRM_seen 17 = .ok (.invokevirtual 96, 3) := by decide +kernel
theorem dRM_seen_20 : decode bRM_seen 20 = .ok (.ireturn, 1) := by decide +kernel
theorem dRM_seen_21 : decode bRM_seen 21 = .ok (.iload_n 3, 1) := by decide +kernel
theorem dRM_seen_22 : decode bRM_seen 22 = .ok (.ifCond .lt 22, 3) := by decide +kernel
theorem dRM_seen_25 : decode bRM_seen 25 = .ok (.iload_n 3, 1) := by decide +kernel
theorem dRM_seen_26 : decode bRM_seen 26 = .ok (.ldc 224, 2) := by decide +kernel
theorem dRM_seen_28 : decode bRM_seen 28 = .ok (.if_icmp .gt 16, 3) := by decide +kernel
theorem dRM_seen_31 : decode bRM_seen 31 = .ok (.iload 4, 2) := by decide +kernel
theorem dRM_seen_33 : decode bRM_seen 33 = .ok (.ifCond .lt 11, 3) := by decide +kernel
theorem dRM_seen_36 : decode bRM_seen 36 = .ok (.iload 4, 2) := by decide +kernel
theorem dRM_seen_38 : decode bRM_seen 38 = .ok (.sipush 999, 3) := by decide +kernel
theorem dRM_seen_41 : decode bRM_seen 41 = .ok (.if_icmp .le 9, 3) := by decide +kernel
theorem dRM_seen_44 : decode bRM_seen 44 = .ok (.aload_n 0, 1) := by decide +kernel
theorem dRM_seen_45 : decode bRM_seen 45 = .ok (.iconst 2, 1) := by decide +kernel
theorem dRM_seen_46 : decode bRM_seen 46 = .ok (.invokevirtual 96, 3) := by decide +kernel
theorem dRM_seen_49 : decode bRM_seen 49 = .ok (.ireturn, 1) := by decide +kernel
theorem dRM_seen_50 : decode bRM_seen 50 = .ok (.aload_n 0, 1) := by decide +kernel
theorem dRM_seen_51 : decode bRM_seen 51 = .ok (.getfield 50, 3) := by decide +kernel
theorem dRM_seen_54 : decode bRM_seen 54 = .ok (.invokevirtual 225, 3) := by decide +kernel
theorem dRM_seen_57 : decode bRM_seen 57 = .ok (.ifCond .eq 9, 3) := by decide +kernel
theorem dRM_seen_60 : decode bRM_seen 60 = .ok (.aload_n 0, 1) := by decide +kernel
theorem dRM_seen_61 : decode bRM_seen 61 = .ok (.iconst 3, 1) := by decide +kernel
theorem dRM_seen_62 : decode bRM_seen 62 = .ok (.invokevirtual 96, 3) := by decide +kernel
theorem dRM_seen_65 : decode bRM_seen 65 = .ok (.ireturn, 1) := by decide +kernel
theorem dRM_seen_66 : decode bRM_seen 66 = .ok (.aload_n 0, 1) := by decide +kernel
theorem dRM_seen_67 : decode bRM_seen 67 = .ok (.aload_n 0, 1) := by decide +kernel
theorem dRM_seen_68 : decode bRM_seen 68 = .ok (.getfield 50, 3) := by decide +kernel
theorem dRM_seen_71 : decode bRM_seen 71 = .ok (.iload_n 1, 1) := by decide +kernel
theorem dRM_seen_72 : decode bRM_seen 72 = .ok (.iload_n 2, 1) := by decide +kernel
theorem dRM_seen_73 : decode bRM_seen 73 = .ok (.iload_n 3, 1) := by decide +kernel
theorem dRM_seen_74 : decode bRM_seen 74 = .ok (.iload 4, 2) := by decide +kernel
theorem dRM_seen_76 : decode bRM_seen 76 = .ok (.invokevirtual 228, 3) := by decide +kernel
theorem dRM_seen_79 : decode bRM_seen 79 = .ok (.invokevirtual 122, 3) := by decide +kernel
theorem dRM_seen_82 : decode bRM_seen 82 = .ok (.ireturn, 1) := by decide +kernel
theorem dRM_forget_0 : decode bRM_forget 0 = .ok (.aload_n 0, 1) := by decide +kernel
theorem dRM_forget_1 : decode bRM_forget 1 = .ok (.getfield 50, 3) := by decide +kernel
theorem dRM_forget_4 : decode bRM_forget 4 = .ok (.invokevirtual 232, 3) := by decide +kernel
theorem dRM_forget_7 : decode bRM_forget 7 = .ok (.ireturn, 1) := by decide +kernel
theorem dRM_fits_0 : decode bRM_fits 0 = .ok (.aload_n 0, 1) := by decide +kernel
theorem dRM_fits_1 : decode bRM_fits 1 = .ok (.invokevirtual 141, 3) := by decide +kernel
theorem dRM_fits_4 : decode bRM_fits 4 = .ok (.ifCond .eq 9, 3) := by decide +kernel
theorem dRM_fits_7 : decode bRM_fits 7 = .ok (.aload_n 0, 1) := by decide +kernel
theorem dRM_fits_8 : decode bRM_fits 8 = .ok (.iconst 1, 1) := by decide +kernel
theorem dRM_fits_9 : decode bRM_fits 9 = .ok (.invokevirtual 96, 3) := by decide +kernel
theorem dRM_fits_12 : decode bRM_fits 12 = .ok (.ireturn, 1) := by decide +kernel
theorem dRM_fits_13 : decode bRM_fits 13 = .ok (.aload_n 0, 1) := by decide +kernel
theorem dRM_fits_14 : decode bRM_fits 14 = .ok (.aload_n 0, 1) := by decide +kernel
theorem dRM_fits_15 : decode bRM_fits 15 = .ok (.invokevirtual 236, 3) := by decide +kernel
theorem dRM_fits_18 : decode bRM_fits 18 = .ok (.invokevirtual 122, 3) := by decide +kernel
theorem dRM_fits_21 : decode bRM_fits 21 = .ok (.ireturn, 1) := by decide +kernel
theorem dRM_fitAt_0 : decode bRM_fitAt 0 = .ok (.aload_n 0, 1) := by decide +kernel
theorem dRM_fitAt_1 : decode bRM_fitAt 1 = .ok (.invokevirtual 141, 3) := by decide +kernel
theorem dRM_fitAt_4 : decode bRM_fitAt 4 = .ok (.ifCond .ne 24, 3) := by decide +kernel
theorem dRM_fitAt_7 : decode bRM_fitAt 7 = .ok (.iload_n 2, 1) := by decide +kernel
theorem dRM_fitAt_8 : decode bRM_fitAt 8 = .ok (.ifCond .lt 20, 3) := by decide +kernel
theorem dRM_fitAt_11 : decode bRM_fitAt 11 = .ok (.iload_n 2, 1) := by decide +kernel
theorem dRM_fitAt_12 : decode bRM_fitAt 12 = .ok (.iconst 2, 1) := by decide +kernel
theorem dRM_fitAt_13 : decode bRM_fitAt 13 = .ok (.if_icmp .gt 15, 3) := by decide +kernel
theorem dRM_fitAt_16 : decode bRM_fitAt 16 = .ok (.iload_n 1, 1) := by decide +kernel
theorem dRM_fitAt_17 : decode bRM_fitAt 17 = .ok (.ifCond .lt 11, 3) := by decide +kernel
theorem dRM_fitAt_20 : decode bRM_fitAt 20 = .ok (.iload_n 1, 1) := by decide +kernel
theorem dRM_fitAt_21 : decode bRM_fitAt 21 = .ok (.aload_n 0, 1) := by decide +kernel
theorem dRM_fitAt_22 : decode bRM_fitAt 22 = .ok (.invokevirtual 236, 3) := by decide +kernel
theorem dRM_fitAt_25 : decode bRM_fitAt 25 = .ok (.if_icmp .lt 9, 3) := by decide +kernel
theorem dRM_fitAt_28 : decode bRM_fitAt 28 = .ok (.aload_n 0, 1) := by decide +kernel
theorem dRM_fitAt_29 : decode bRM_fitAt 29 = .ok (.iconst 1, 1) := by decide +kernel
theorem dRM_fitAt_30 : decode bRM_fitAt 30 = .ok (.invokevirtual 96, 3) := by decide +kernel
theorem dRM_fitAt_33 : decode bRM_fitAt 33 = .ok (.ireturn, 1) := by decide +kernel
theorem dRM_fitAt_34 : decode bRM_fitAt 34 = .ok (.aload_n 0, 1) := by decide +kernel
theorem dRM_fitAt_35 : decode bRM_fitAt 35 = .ok (.aload_n 0, 1) := by decide +kernel
theorem dRM_fitAt_36 : decode bRM_fitAt 36 = .ok (.getfield 50, 3) := by decide +kernel
theorem dRM_fitAt_39 : decode bRM_fitAt 39 = .ok (.iload_n 1, 1) := by decide +kernel
theorem dRM_fitAt_40 : decode bRM_fitAt 40 = .ok (.invokevirtual 239, 3) := by decide +kernel
theorem dRM_fitAt_43 : decode bRM_fitAt 43 = .ok (.iload_n 2, 1) := by decide +kernel
theorem dRM_fitAt_44 : decode bRM_fitAt 44 = .ok (.invokestatic 242, 3) := by decide +kernel
theorem dRM_fitAt_47 : decode bRM_fitAt 47 = .ok (.invokevirtual 122, 3) := by decide +kernel
theorem dRM_fitAt_50 : decode bRM_fitAt 50 = .ok (.ireturn, 1) := by decide +kernel
theorem dRM_certain_0 : decode bRM_certain 0 = .ok (.aload_n 0, 1) := by decide +kernel
theorem dRM_certain_1 : decode bRM_certain 1 = .ok (.invokevirtual 141, 3) := by decide +kernel
theorem dRM_certain_4 : decode bRM_certain 4 = .ok (.ifCond .ne 12, 3) := by decide +kernel
theorem dRM_certain_7 : decode bRM_certain 7 = .ok (.iload_n 1, 1) := by decide +kernel
theorem dRM_certain_8 : decode bRM_certain 8 = .ok (.ifCond .lt 8, 3) := by decide +kernel
theorem dRM_certain_11 : decode bRM_certain 11 = .ok (.iload_n 1, 1) := by decide +kernel
theorem dRM_certain_12 : decode bRM_certain 12 = .ok (.iconst 2, 1) := by decide +kernel
theorem dRM_certain_13 : decode bRM_certain 13 = .ok (.if_icmp .le 9, 3) := by decide +kernel
theorem dRM_certain_16 : decode bRM_certain 16 = .ok (.aload_n 0, 1) := by decide +kernel
theorem dRM_certain_17 : decode bRM_certain 17 = .ok (.iconst 1, 1) := by decide +kernel
theorem dRM_certain_18 : decode bRM_certain 18 = .ok (.invokevirtual 96, 3) := by decide +kernel
theorem dRM_certain_21 : decode bRM_certain 21 = .ok (.ireturn, 1) := by decide +kernel
theorem dRM_certain_22 : decode bRM_certain 22 = .ok (.aload_n 0, 1) := by decide +kernel
theorem dRM_certain_23 : decode bRM_certain 23 = .ok (.invokevirtual 236, 3) := by decide +kernel
theorem dRM_certain_26 : decode bRM_certain 26 = .ok (.istore_n 2, 1) := by decide +kernel
theorem dRM_certain_27 : decode bRM_certain 27 = .ok (.iload_n 2, 1) := by decide +kernel
theorem dRM_certain_28 : decode bRM_certain 28 = .ok (.ifCond .ne 10, 3) := by decide +kernel
theorem dRM_certain_31 : decode bRM_certain 31 = .ok (.aload_n 0, 1) := by decide +kernel
theorem dRM_certain_32 : decode bRM_certain 32 = .ok (.bipush 6, 2) := by decide +kernel
theorem dRM_certain_34 : decode bRM_certain 34 = .ok (.invokevirtual 96, 3) := by decide +kernel
theorem dRM_certain_37 : decode bRM_certain 37 = .ok (.ireturn, 1) := by decide +kernel
theorem dRM_certain_38 : decode bRM_certain 38 = .ok (.aload_n 0, 1) := by decide +kernel
theorem dRM_certain_39 : decode bRM_certain 39 = .ok (.getfield 50, 3) := by decide +kernel
theorem dRM_certain_42 : decode bRM_certain 42 = .ok (.iconst 0, 1) := by decide +kernel
theorem dRM_certain_43 : decode bRM_certain 43 = .ok (.invokevirtual 239, 3) := by decide +kernel
theorem dRM_certain_46 : decode bRM_certain 46 = .ok (.iload_n 1, 1) := by decide +kernel
theorem dRM_certain_47 : decode bRM_certain 47 = .ok (.invokestatic 242, 3) := by decide +kernel
theorem dRM_certain_50 : decode bRM_certain 50 = .ok (.istore_n 3, 1) := by decide +kernel
theorem dRM_certain_51 : decode bRM_certain 51 = .ok (.iconst 1, 1) := by decide +kernel
theorem dRM_certain_52 : decode bRM_certain 52 = .ok (.istore 4, 2) := by decide +kernel
theorem dRM_certain_54 : decode bRM_certain 54 = .ok (.iload 4, 2) := by decide +kernel
theorem dRM_certain_56 : decode bRM_certain 56 = .ok (.iload_n 2, 1) := by decide +kernel
theorem dRM_certain_57 : decode bRM_certain 57 = .ok (.if_icmp .ge 33, 3) := by decide +kernel
theorem dRM_certain_60 : decode bRM_certain 60 = .ok (.aload_n 0, 1) := by decide +kernel
theorem dRM_certain_61 : decode bRM_certain 61 = .ok (.getfield 50, 3) := by decide +kernel
theorem dRM_certain_64 : decode bRM_certain 64 = .ok (.iload 4, 2) := by decide +kernel
theorem dRM_certain_66 : decode bRM_certain 66 = .ok (.invokevirtual 239, 3) := by decide +kernel
theorem dRM_certain_69 : decode bRM_certain 69 = .ok (.iload_n 1, 1) := by decide +kernel
theorem dRM_certain_70 : decode bRM_certain 70 = .ok (.invokestatic 242, 3) := by decide +kernel
theorem dRM_certain_73 : decode bRM_certain 73 = .ok (.iload_n 3, 1) := by decide +kernel
theorem dRM_certain_74 : decode bRM_certain 74 = .ok (.if_icmp .eq 10, 3) := by decide +kernel
theorem dRM_certain_77 : decode bRM_certain 77 = .ok (.aload_n 0, 1) := by decide +kernel
theorem dRM_certain_78 : decode bRM_certain 78 = .ok (.bipush (-2), 2) := by decide +kernel
theorem dRM_certain_80 : decode bRM_certain 80 = .ok (.invokevirtual 122, 3) := by decide +kernel
theorem dRM_certain_83 : decode bRM_certain 83 = .ok (.ireturn, 1) := by decide +kernel
theorem dRM_certain_84 : decode bRM_certain 84 = .ok (.iinc 4 1, 3) := by decide +kernel
theorem dRM_certain_87 : decode bRM_certain 87 = .ok (.goto (-33), 3) := by decide +kernel
theorem dRM_certain_90 : decode bRM_certain 90 = .ok (.aload_n 0, 1) := by decide +kernel
theorem dRM_certain_91 : decode bRM_certain 91 = .ok (.iload_n 3, 1) := by decide +kernel
theorem dRM_certain_92 : decode bRM_certain 92 = .ok (.invokevirtual 122, 3) := by decide +kernel
theorem dRM_certain_95 : decode bRM_certain 95 = .ok (.ireturn, 1) := by decide +kernel
theorem dRM_guess_0 : decode bRM_guess 0 = .ok (.aload_n 0, 1) := by decide +kernel
theorem dRM_guess_1 : decode bRM_guess 1 = .ok (.invokevirtual 141, 3) := by decide +kernel
theorem dRM_guess_4 : decode bRM_guess 4 = .ok (.ifCond .ne 20, 3) := by decide +kernel
theorem dRM_guess_7 : decode bRM_guess 7 = .ok (.iload 4, 2) := by decide +kernel
theorem dRM_guess_9 : decode bRM_guess 9 = .ok (.invokestatic 212, 3) := by decide +kernel
theorem dRM_guess_12 : decode bRM_guess 12 = .ok (.ifCond .eq 12, 3) := by decide +kernel
theorem dRM_guess_15 : decode bRM_guess 15 = .ok (.aload_n 0, 1) := by decide +kernel
theorem dRM_guess_16 : decode bRM_guess 16 = .ok (.iload 5, 2) := by decide +kernel
theorem dRM_guess_18 : decode bRM_guess 18 = .ok (.invokevirtual 221, 3) := by decide +kernel
theorem dRM_guess_21 : decode bRM_guess 21 = .ok (.ifCond .ne 9, 3) := by decide +kernel
theorem dRM_guess_24 : decode bRM_guess 24 = .ok (.aload_n 0, 1) := by decide +kernel
theorem dRM_guess_25 : decode bRM_guess 25 = .ok (.iconst 1, 1) := by decide +kernel
theorem dRM_guess_26 : decode bRM_guess 26 = .ok (.invokevirtual 96, 3) := by decide +kernel
theorem dRM_guess_29 : decode bRM_guess 29 = .ok (.ireturn, 1) := by decide +kernel
theorem dRM_guess_30 : decode bRM_guess 30 = .ok (.iload_n 1, 1) := by decide +kernel
theorem dRM_guess_31 : decode bRM_guess 31 = .ok (.iload_n 2, 1) := by decide +kernel
theorem dRM_guess_32 : decode bRM_guess 32 = .ok (.iload_n 3, 1) := by decide +kernel
theorem dRM_guess_33 : decode bRM_guess 33 = .ok (.invokestatic 246, 3) := by decide +kernel
theorem dRM_guess_36 : decode bRM_guess 36 = .ok (.ifCond .ne 9, 3) := by decide +kernel
theorem dRM_guess_39 : decode bRM_guess 39 = .ok (.aload_n 0, 1) := by decide +kernel
theorem dRM_guess_40 : decode bRM_guess 40 = .ok (.iconst 2, 1) := by decide +kernel
theorem dRM_guess_41 : decode bRM_guess 41 = .ok (.invokevirtual 96, 3) := by decide +kernel
theorem dRM_guess_44 : decode bRM_guess 44 = .ok (.ireturn, 1) := by decide +kernel
theorem dRM_guess_45 : decode bRM_guess 45 = .ok (.iload_n 1, 1) := by decide +kernel
theorem dRM_guess_46 : decode bRM_guess 46 = .ok (.iload_n 2, 1) := by decide +kernel
theorem dRM_guess_47 : decode bRM_guess 47 = .ok (.iload_n 3, 1) := by decide +kernel
theorem dRM_guess_48 : decode bRM_guess 48 = .ok (.invokestatic 250, 3) := by decide +kernel
theorem dRM_guess_51 : decode bRM_guess 51 = .ok (.istore 6, 2) := by decide +kernel
theorem dRM_guess_53 : decode bRM_guess 53 = .ok (.aload_n 0, 1) := by decide +kernel
theorem dRM_guess_54 : decode bRM_guess 54 = .ok (.getfield 43, 3) := by decide +kernel
theorem dRM_guess_57 : decode bRM_guess 57 = .ok (.aload_n 0, 1) := by decide +kernel
theorem dRM_guess_58 : decode bRM_guess 58 = .ok (.getfield 19, 3) := by decide +kernel
theorem dRM_guess_61 : decode bRM_guess 61 = .ok (.aload_n 0, 1) := by decide +kernel
theorem dRM_guess_62 : decode bRM_guess 62 = .ok (.getfield 37, 3) := by decide +kernel
theorem dRM_guess_65 : decode bRM_guess 65 = .ok (.iload 6, 2) := by decide +kernel
theorem dRM_guess_67 : decode bRM_guess 67 = .ok (.invokevirtual 254, 3) := by decide +kernel
theorem dRM_guess_70 : decode bRM_guess 70 = .ok (.aload_n 0, 1) := by decide +kernel
theorem dRM_guess_71 : decode bRM_guess 71 = .ok (.aload_n 0, 1) := by decide +kernel
theorem dRM_guess_72 : decode bRM_guess 72 = .ok (.getfield 43, 3) := by decide +kernel
theorem dRM_guess_75 : decode bRM_guess 75 = .ok (.iload 6, 2) := by decide +kernel
theorem dRM_guess_77 : decode bRM_guess 77 = .ok (.iload 4, 2) := by decide +kernel
theorem dRM_guess_79 : decode bRM_guess 79 = .ok (.iload 5, 2) := by decide +kernel
theorem dRM_guess_81 : decode bRM_guess 81 = .ok (.invokevirtual 257, 3) := by decide +kernel
theorem dRM_guess_84 : decode bRM_guess 84 = .ok (.invokevirtual 122, 3) := by decide +kernel
theorem dRM_guess_87 : decode bRM_guess 87 = .ok (.ireturn, 1) := by decide +kernel
theorem dRM_swapped_0 : decode bRM_swapped 0 = .ok (.aload_n 0, 1) := by decide +kernel
theorem dRM_swapped_1 : decode bRM_swapped 1 = .ok (.invokevirtual 141, 3) := by decide +kernel
theorem dRM_swapped_4 : decode bRM_swapped 4 = .ok (.ifCond .eq 9, 3) := by decide +kernel
theorem dRM_swapped_7 : decode bRM_swapped 7 = .ok (.aload_n 0, 1) := by decide +kernel
theorem dRM_swapped_8 : decode bRM_swapped 8 = .ok (.iconst 1, 1) := by decide +kernel
theorem dRM_swapped_9 : decode bRM_swapped 9 = .ok (.invokevirtual 96, 3) := by decide +kernel
theorem dRM_swapped_12 : decode bRM_swapped 12 = .ok (.ireturn, 1) := by decide +kernel
theorem dRM_swapped_13 : decode bRM_swapped 13 = .ok (.aload_n 0, 1) := by decide +kernel
theorem dRM_swapped_14 : decode bRM_swapped 14 = .ok (.invokevirtual 236, 3) := by decide +kernel
theorem dRM_swapped_17 : decode bRM_swapped 17 = .ok (.ifCond .le 9, 3) := by decide +kernel
theorem dRM_swapped_20 : decode bRM_swapped 20 = .ok (.aload_n 0, 1) := by decide +kernel
theorem dRM_swapped_21 : decode bRM_swapped 21 = .ok (.iconst 5, 1) := by decide +kernel
theorem dRM_swapped_22 : decode bRM_swapped 22 = .ok (.invokevirtual 96, 3) := by decide +kernel
theorem dRM_swapped_25 : decode bRM_swapped 25 = .ok (.ireturn, 1) := by decide +kernel
theorem dRM_swapped_26 : decode bRM_swapped 26 = .ok (.iconst 0, 1) := by decide +kernel
theorem dRM_swapped_27 : decode bRM_swapped 27 = .ok (.istore_n 1, 1) := by decide +kernel
theorem dRM_swapped_28 : decode bRM_swapped 28 = .ok (.iload_n 1, 1) := by decide +kernel
theorem dRM_swapped_29 : decode bRM_swapped 29 = .ok (.bipush 12, 2) := by decide +kernel
theorem dRM_swapped_31 : decode bRM_swapped 31 = .ok (.if_icmp .ge 52, 3) := by decide +kernel
theorem dRM_swapped_34 : decode bRM_swapped 34 = .ok (.iload_n 1, 1) := by decide +kernel
theorem dRM_swapped_35 : decode bRM_swapped 35 = .ok (.iconst 1, 1) := by decide +kernel
theorem dRM_swapped_36 : decode bRM_swapped 36 = .ok (.iadd, 1) := by decide +kernel
theorem dRM_swapped_37 : decode bRM_swapped 37 = .ok (.istore_n 2, 1) := by decide +kernel
theorem dRM_swapped_38 : decode bRM_swapped 38 = .ok (.iload_n 2, 1) := by decide +kernel
theorem dRM_swapped_39 : decode bRM_swapped 39 = .ok (.bipush 12, 2) := by decide +kernel
theorem dRM_swapped_41 : decode bRM_swapped 41 = .ok (.if_icmp .ge 36, 3) := by decide +kernel
theorem dRM_swapped_44 : decode bRM_swapped 44 = .ok (.aload_n 0, 1) := by decide +kernel
theorem dRM_swapped_45 : decode bRM_swapped 45 = .ok (.getfield 50, 3) := by decide +kernel
theorem dRM_swapped_48 : decode bRM_swapped 48 = .ok (.aload_n 0, 1) := by decide +kernel
theorem dRM_swapped_49 : decode bRM_swapped 49 = .ok (.getfield 43, 3) := by decide +kernel
theorem dRM_swapped_52 : decode bRM_swapped 52 = .ok (.iload_n 1, 1) := by decide +kernel
theorem dRM_swapped_53 : decode bRM_swapped 53 = .ok (.iload_n 2, 1) := by decide +kernel
theorem dRM_swapped_54 : decode bRM_swapped 54 = .ok (.invokevirtual 260, 3) := by decide +kernel
theorem dRM_swapped_57 : decode bRM_swapped 57 = .ok (.ifCond .eq 14, 3) := by decide +kernel
theorem dRM_swapped_60 : decode bRM_swapped 60 = .ok (.aload_n 0, 1) := by decide +kernel
theorem dRM_swapped_61 : decode bRM_swapped 61 = .ok (.bipush 100, 2) := by decide +kernel
theorem dRM_swapped_63 : decode bRM_swapped 63 = .ok (.iload_n 1, 1) := by decide +kernel
theorem dRM_swapped_64 : decode bRM_swapped 64 = .ok (.imul, 1) := by decide +kernel
theorem dRM_swapped_65 : decode bRM_swapped 65 = .ok (.iload_n 2, 1) := by decide +kernel
theorem dRM_swapped_66 : decode bRM_swapped 66 = .ok (.iadd, 1) := by decide +kernel
theorem dRM_swapped_67 : decode bRM_swapped 67 = .ok (.invokevirtual 122, 3) := by decide +kernel
theorem dRM_swapped_70 : decode bRM_swapped 70 = .ok (.ireturn, 1) := by decide +kernel
theorem dRM_swapped_71 : decode bRM_swapped 71 = .ok (.iinc 2 1, 3) := by decide +kernel
theorem dRM_swapped_74 : decode bRM_swapped 74 = .ok (.goto (-36), 3) := by decide +kernel
theorem dRM_swapped_77 : decode bRM_swapped 77 = .ok (.iinc 1 1, 3) := by decide +kernel
theorem dRM_swapped_80 : decode bRM_swapped 80 = .ok (.goto (-52), 3) := by decide +kernel
theorem dRM_swapped_83 : decode bRM_swapped 83 = .ok (.aload_n 0, 1) := by decide +kernel
theorem dRM_swapped_84 : decode bRM_swapped 84 = .ok (.bipush (-2), 2) := by decide +kernel
theorem dRM_swapped_86 : decode bRM_swapped 86 = .ok (.invokevirtual 122, 3) := by decide +kernel
theorem dRM_swapped_89 : decode bRM_swapped 89 = .ok (.ireturn, 1) := by decide +kernel
theorem dRM_plan_0 : decode bRM_plan 0 = .ok (.aload_n 0, 1) := by decide +kernel
theorem dRM_plan_1 : decode bRM_plan 1 = .ok (.invokevirtual 141, 3) := by decide +kernel
theorem dRM_plan_4 : decode bRM_plan 4 = .ok (.ifCond .eq 9, 3) := by decide +kernel
theorem dRM_plan_7 : decode bRM_plan 7 = .ok (.aload_n 0, 1) := by decide +kernel
theorem dRM_plan_8 : decode bRM_plan 8 = .ok (.iconst 1, 1) := by decide +kernel
theorem dRM_plan_9 : decode bRM_plan 9 = .ok (.invokevirtual 96, 3) := by decide +kernel
theorem dRM_plan_12 : decode bRM_plan 12 = .ok (.ireturn, 1) := by decide +kernel
theorem dRM_plan_13 : decode bRM_plan 13 = .ok (.iload_n 1, 1) := by decide +kernel
theorem dRM_plan_14 : decode bRM_plan 14 = .ok (.invokestatic 264, 3) := by decide +kernel
theorem dRM_plan_17 : decode bRM_plan 17 = .ok (.ifCond .ne 9, 3) := by decide +kernel
theorem dRM_plan_20 : decode bRM_plan 20 = .ok (.aload_n 0, 1) := by decide +kernel
theorem dRM_plan_21 : decode bRM_plan 21 = .ok (.iconst 2, 1) := by decide +kernel
theorem dRM_plan_22 : decode bRM_plan 22 = .ok (.invokevirtual 96, 3) := by decide +kernel
theorem dRM_plan_25 : decode bRM_plan 25 = .ok (.ireturn, 1) := by decide +kernel
theorem dRM_plan_26 : decode bRM_plan 26 = .ok (.aload_n 0, 1) := by decide +kernel
theorem dRM_plan_27 : decode bRM_plan 27 = .ok (.getfield 57, 3) := by decide +kernel
theorem dRM_plan_30 : decode bRM_plan 30 = .ok (.aload_n 0, 1) := by decide +kernel
theorem dRM_plan_31 : decode bRM_plan 31 = .ok (.getfield 19, 3) := by decide +kernel
theorem dRM_plan_34 : decode bRM_plan 34 = .ok (.aload_n 0, 1) := by decide +kernel
theorem dRM_plan_35 : decode bRM_plan 35 = .ok (.getfield 29, 3) := by decide +kernel
theorem dRM_plan_38 : decode bRM_plan 38 = .ok (.aload_n 0, 1) := by decide +kernel
theorem dRM_plan_39 : decode bRM_plan 39 = .ok (.getfield 33, 3) := by decide +kernel
theorem dRM_plan_42 : decode bRM_plan 42 = .ok (.iload_n 1, 1) := by decide +kernel
theorem dRM_plan_43 : decode bRM_plan 43 = .ok (.invokevirtual 267, 3) := by decide +kernel
theorem dRM_plan_46 : decode bRM_plan 46 = .ok (.istore_n 2, 1) := by decide +kernel
theorem dRM_plan_47 : decode bRM_plan 47 = .ok (.iload_n 2, 1) := by decide +kernel
theorem dRM_plan_48 : decode bRM_plan 48 = .ok (.iconst (-1), 1) := by decide +kernel
theorem dRM_plan_49 : decode bRM_plan 49 = .ok (.if_icmp .ne 12, 3) := by decide +kernel
theorem dRM_plan_52 : decode bRM_plan 52 = .ok (.aload_n 0, 1) := by decide +kernel
theorem dRM_plan_53 : decode bRM_plan 53 = .ok (.bipush 6, 2) := by decide +kernel
theorem dRM_plan_55 : decode bRM_plan 55 = .ok (.invokevirtual 96, 3) := by decide +kernel
theorem dRM_plan_58 : decode bRM_plan 58 = .ok (.goto 8, 3) := by decide +kernel
theorem dRM_plan_61 : decode bRM_plan 61 = .ok (.aload_n 0, 1) := by decide +kernel
theorem dRM_plan_62 : decode bRM_plan 62 = .ok (.iload_n 2, 1) := by decide +kernel
theorem dRM_plan_63 : decode bRM_plan 63 = .ok (.invokevirtual 122, 3) := by decide +kernel
theorem dRM_plan_66 : decode bRM_plan 66 = .ok (.ireturn, 1) := by decide +kernel
theorem dRM_rate_0 : decode bRM_rate 0 = .ok (.aload_n 0, 1) := by decide +kernel
theorem dRM_rate_1 : decode bRM_rate 1 = .ok (.getfield 57, 3) := by decide +kernel
theorem dRM_rate_4 : decode bRM_rate 4 = .ok (.iload_n 1, 1) := by decide +kernel
theorem dRM_rate_5 : decode bRM_rate 5 = .ok (.invokevirtual 271, 3) := by decide +kernel
theorem dRM_rate_8 : decode bRM_rate 8 = .ok (.ireturn, 1) := by decide +kernel
theorem dRM_rule_0 : decode bRM_rule 0 = .ok (.aload_n 0, 1) := by decide +kernel
theorem dRM_rule_1 : decode bRM_rule 1 = .ok (.invokevirtual 141, 3) := by decide +kernel
theorem dRM_rule_4 : decode bRM_rule 4 = .ok (.ifCond .eq 9, 3) := by decide +kernel
theorem dRM_rule_7 : decode bRM_rule 7 = .ok (.aload_n 0, 1) := by decide +kernel
theorem dRM_rule_8 : decode bRM_rule 8 = .ok (.iconst 1, 1) := by decide +kernel
theorem dRM_rule_9 : decode bRM_rule 9 = .ok (.invokevirtual 96, 3) := by decide +kernel
theorem dRM_rule_12 : decode bRM_rule 12 = .ok (.ireturn, 1) := by decide +kernel
theorem dRM_rule_13 : decode bRM_rule 13 = .ok (.iload_n 1, 1) := by decide +kernel
theorem dRM_rule_14 : decode bRM_rule 14 = .ok (.invokestatic 264, 3) := by decide +kernel
theorem dRM_rule_17 : decode bRM_rule 17 = .ok (.ifCond .ne 9, 3) := by decide +kernel
theorem dRM_rule_20 : decode bRM_rule 20 = .ok (.aload_n 0, 1) := by decide +kernel
theorem dRM_rule_21 : decode bRM_rule 21 = .ok (.iconst 2, 1) := by decide +kernel
theorem dRM_rule_22 : decode bRM_rule 22 = .ok (.invokevirtual 96, 3) := by decide +kernel
theorem dRM_rule_25 : decode bRM_rule 25 = .ok (.ireturn, 1) := by decide +kernel
theorem dRM_rule_26 : decode bRM_rule 26 = .ok (.aload_n 0, 1) := by decide +kernel
theorem dRM_rule_27 : decode bRM_rule 27 = .ok (.getfield 57, 3) := by decide +kernel
theorem dRM_rule_30 : decode bRM_rule 30 = .ok (.aload_n 0, 1) := by decide +kernel
theorem dRM_rule_31 : decode bRM_rule 31 = .ok (.getfield 19, 3) := by decide +kernel
theorem dRM_rule_34 : decode bRM_rule 34 = .ok (.aload_n 0, 1) := by decide +kernel
theorem dRM_rule_35 : decode bRM_rule 35 = .ok (.getfield 29, 3) := by decide +kernel
theorem dRM_rule_38 : decode bRM_rule 38 = .ok (.aload_n 0, 1) := by decide +kernel
theorem dRM_rule_39 : decode bRM_rule 39 = .ok (.getfield 33, 3) := by decide +kernel
theorem dRM_rule_42 : decode bRM_rule 42 = .ok (.iload_n 1, 1) := by decide +kernel
theorem dRM_rule_43 : decode bRM_rule 43 = .ok (.invokevirtual 274, 3) := by decide +kernel
theorem dRM_rule_46 : decode bRM_rule 46 = .ok (.aload_n 0, 1) := by decide +kernel
theorem dRM_rule_47 : decode bRM_rule 47 = .ok (.aload_n 0, 1) := by decide +kernel
theorem dRM_rule_48 : decode bRM_rule 48 = .ok (.getfield 57, 3) := by decide +kernel
theorem dRM_rule_51 : decode bRM_rule 51 = .ok (.getfield 278, 3) := by decide +kernel
theorem dRM_rule_54 : decode bRM_rule 54 = .ok (.getfield 206, 3) := by decide +kernel
theorem dRM_rule_57 : decode bRM_rule 57 = .ok (.aload_n 0, 1) := by decide +kernel
theorem dRM_rule_58 : decode bRM_rule 58 = .ok (.getfield 29, 3) := by decide +kernel
theorem dRM_rule_61 : decode bRM_rule 61 = .ok (.getfield 206, 3) := by decide +kernel
theorem dRM_rule_64 : decode bRM_rule 64 = .ok (.isub, 1) := by decide +kernel
theorem dRM_rule_65 : decode bRM_rule 65 = .ok (.invokevirtual 122, 3) := by decide +kernel
theorem dRM_rule_68 : decode bRM_rule 68 = .ok (.ireturn, 1) := by decide +kernel
theorem dRM_lacks_0 : decode bRM_lacks 0 = .ok (.aload_n 0, 1) := by decide +kernel
theorem dRM_lacks_1 : decode bRM_lacks 1 = .ok (.invokevirtual 141, 3) := by decide +kernel
theorem dRM_lacks_4 : decode bRM_lacks 4 = .ok (.ifCond .eq 9, 3) := by decide +kernel
theorem dRM_lacks_7 : decode bRM_lacks 7 = .ok (.aload_n 0, 1) := by decide +kernel
theorem dRM_lacks_8 : decode bRM_lacks 8 = .ok (.iconst 1, 1) := by decide +kernel
theorem dRM_lacks_9 : decode bRM_lacks 9 = .ok (.invokevirtual 96, 3) := by decide +kernel
theorem dRM_lacks_12 : decode bRM_lacks 12 = .ok (.ireturn, 1) := by decide +kernel
theorem dRM_lacks_13 : decode bRM_lacks 13 = .ok (.iload_n 1, 1) := by decide +kernel
theorem dRM_lacks_14 : decode bRM_lacks 14 = .ok (.invokestatic 264, 3) := by decide +kernel
theorem dRM_lacks_17 : decode bRM_lacks 17 = .ok (.ifCond .ne 9, 3) := by decide +kernel
theorem dRM_lacks_20 : decode bRM_lacks 20 = .ok (.aload_n 0, 1) := by decide +kernel
theorem dRM_lacks_21 : decode bRM_lacks 21 = .ok (.iconst 2, 1) := by decide +kernel
theorem dRM_lacks_22 : decode bRM_lacks 22 = .ok (.invokevirtual 96, 3) := by decide +kernel
theorem dRM_lacks_25 : decode bRM_lacks 25 = .ok (.ireturn, 1) := by decide +kernel
theorem dRM_lacks_26 : decode bRM_lacks 26 = .ok (.aload_n 0, 1) := by decide +kernel
theorem dRM_lacks_27 : decode bRM_lacks 27 = .ok (.getfield 57, 3) := by decide +kernel
theorem dRM_lacks_30 : decode bRM_lacks 30 = .ok (.aload_n 0, 1) := by decide +kernel
theorem dRM_lacks_31 : decode bRM_lacks 31 = .ok (.getfield 19, 3) := by decide +kernel
theorem dRM_lacks_34 : decode bRM_lacks 34 = .ok (.aload_n 0, 1) := by decide +kernel
theorem dRM_lacks_35 : decode bRM_lacks 35 = .ok (.getfield 29, 3) := by decide +kernel
theorem dRM_lacks_38 : decode bRM_lacks 38 = .ok (.aload_n 0, 1) := by decide +kernel
theorem dRM_lacks_39 : decode bRM_lacks 39 = .ok (.getfield 33, 3) := by decide +kernel
theorem dRM_lacks_42 : decode bRM_lacks 42 = .ok (.iload_n 1, 1) := by decide +kernel
theorem dRM_lacks_43 : decode bRM_lacks 43 = .ok (.invokevirtual 274, 3) := by decide +kernel
theorem dRM_lacks_46 : decode bRM_lacks 46 = .ok (.aload_n 0, 1) := by decide +kernel
theorem dRM_lacks_47 : decode bRM_lacks 47 = .ok (.aload_n 0, 1) := by decide +kernel
theorem dRM_lacks_48 : decode bRM_lacks 48 = .ok (.getfield 57, 3) := by decide +kernel
theorem dRM_lacks_51 : decode bRM_lacks 51 = .ok (.getfield 278, 3) := by decide +kernel
theorem dRM_lacks_54 : decode bRM_lacks 54 = .ok (.getfield 191, 3) := by decide +kernel
theorem dRM_lacks_57 : decode bRM_lacks 57 = .ok (.aload_n 0, 1) := by decide +kernel
theorem dRM_lacks_58 : decode bRM_lacks 58 = .ok (.getfield 29, 3) := by decide +kernel
theorem dRM_lacks_61 : decode bRM_lacks 61 = .ok (.getfield 191, 3) := by decide +kernel
theorem dRM_lacks_64 : decode bRM_lacks 64 = .ok (.isub, 1) := by decide +kernel
theorem dRM_lacks_65 : decode bRM_lacks 65 = .ok (.invokevirtual 122, 3) := by decide +kernel
theorem dRM_lacks_68 : decode bRM_lacks 68 = .ok (.ireturn, 1) := by decide +kernel
theorem dRM_number_0 : decode bRM_number 0 = .ok (.aload_n 0, 1) := by decide +kernel
theorem dRM_number_1 : decode bRM_number 1 = .ok (.invokevirtual 141, 3) := by decide +kernel
theorem dRM_number_4 : decode bRM_number 4 = .ok (.ifCond .eq 9, 3) := by decide +kernel
theorem dRM_number_7 : decode bRM_number 7 = .ok (.aload_n 0, 1) := by decide +kernel
theorem dRM_number_8 : decode bRM_number 8 = .ok (.iconst 1, 1) := by decide +kernel
theorem dRM_number_9 : decode bRM_number 9 = .ok (.invokevirtual 96, 3) := by decide +kernel
theorem dRM_number_12 : decode bRM_number 12 = .ok (.ireturn, 1) := by decide +kernel
theorem dRM_number_13 : decode bRM_number 13 = .ok (.iload_n 2, 1) := by decide +kernel
theorem dRM_number_14 : decode bRM_number 14 = .ok (.ifCond .lt 10, 3) := by decide +kernel
theorem dRM_number_17 : decode bRM_number 17 = .ok (.iload_n 2, 1) := by decide +kernel
theorem dRM_number_18 : decode bRM_number 18 = .ok (.sipush 999, 3) := by decide +kernel
theorem dRM_number_21 : decode bRM_number 21 = .ok (.if_icmp .le 9, 3) := by decide +kernel
theorem dRM_number_24 : decode bRM_number 24 = .ok (.aload_n 0, 1) := by decide +kernel
theorem dRM_number_25 : decode bRM_number 25 = .ok (.iconst 2, 1) := by decide +kernel
theorem dRM_number_26 : decode bRM_number 26 = .ok (.invokevirtual 96, 3) := by decide +kernel
theorem dRM_number_29 : decode bRM_number 29 = .ok (.ireturn, 1) := by decide +kernel
theorem dRM_number_30 : decode bRM_number 30 = .ok (.aload_n 0, 1) := by decide +kernel
theorem dRM_number_31 : decode bRM_number 31 = .ok (.getfield 64, 3) := by decide +kernel
theorem dRM_number_34 : decode bRM_number 34 = .ok (.iload_n 1, 1) := by decide +kernel
theorem dRM_number_35 : decode bRM_number 35 = .ok (.invokevirtual 281, 3) := by decide +kernel
theorem dRM_number_38 : decode bRM_number 38 = .ok (.ifCond .eq 9, 3) := by decide +kernel
theorem dRM_number_41 : decode bRM_number 41 = .ok (.aload_n 0, 1) := by decide +kernel
theorem dRM_number_42 : decode bRM_number 42 = .ok (.iconst 3, 1) := by decide +kernel
theorem dRM_number_43 : decode bRM_number 43 = .ok (.invokevirtual 96, 3) := by decide +kernel
theorem dRM_number_46 : decode bRM_number 46 = .ok (.ireturn, 1) := by decide +kernel
theorem dRM_number_47 : decode bRM_number 47 = .ok (.aload_n 0, 1) := by decide +kernel
theorem dRM_number_48 : decode bRM_number 48 = .ok (.aload_n 0, 1) := by decide +kernel
theorem dRM_number_49 : decode bRM_number 49 = .ok (.getfield 64, 3) := by decide +kernel
theorem dRM_number_52 : decode bRM_number 52 = .ok (.iload_n 1, 1) := by decide +kernel
theorem dRM_number_53 : decode bRM_number 53 = .ok (.iload_n 2, 1) := by decide +kernel
theorem dRM_number_54 : decode bRM_number 54 = .ok (.invokevirtual 284, 3) := by decide +kernel
theorem dRM_number_57 : decode bRM_number 57 = .ok (.invokevirtual 122, 3) := by decide +kernel
theorem dRM_number_60 : decode bRM_number 60 = .ok (.ireturn, 1) := by decide +kernel
theorem dRM_chance_0 : decode bRM_chance 0 = .ok (.aload_n 0, 1) := by decide +kernel
theorem dRM_chance_1 : decode bRM_chance 1 = .ok (.getfield 64, 3) := by decide +kernel
theorem dRM_chance_4 : decode bRM_chance 4 = .ok (.invokevirtual 288, 3) := by decide +kernel
theorem dRM_chance_7 : decode bRM_chance 7 = .ok (.ifCond .eq 11, 3) := by decide +kernel
theorem dRM_chance_10 : decode bRM_chance 10 = .ok (.aload_n 0, 1) := by decide +kernel
theorem dRM_chance_11 : decode bRM_chance 11 = .ok (.iconst 5, 1) := by decide +kernel
theorem dRM_chance_12 : decode bRM_chance 12 = .ok (.invokevirtual 96, 3) := by decide +kernel
theorem dRM_chance_15 : decode bRM_chance 15 = .ok (.goto 14, 3) := by decide +kernel
theorem dRM_chance_18 : decode bRM_chance 18 = .ok (.aload_n 0, 1) := by decide +kernel
theorem dRM_chance_19 : decode bRM_chance 19 = .ok (.aload_n 0, 1) := by decide +kernel
theorem dRM_chance_20 : decode bRM_chance 20 = .ok (.getfield 64, 3) := by decide +kernel
theorem dRM_chance_23 : decode bRM_chance 23 = .ok (.invokevirtual 291, 3) := by decide +kernel
theorem dRM_chance_26 : decode bRM_chance 26 = .ok (.invokevirtual 122, 3) := by decide +kernel
theorem dRM_chance_29 : decode bRM_chance 29 = .ok (.ireturn, 1) := by decide +kernel
theorem dRM_splits_0 : decode bRM_splits 0 = .ok (.aload_n 0, 1) := by decide +kernel
theorem dRM_splits_1 : decode bRM_splits 1 = .ok (.getfield 64, 3) := by decide +kernel
theorem dRM_splits_4 : decode bRM_splits 4 = .ok (.invokevirtual 288, 3) := by decide +kernel
theorem dRM_splits_7 : decode bRM_splits 7 = .ok (.ifCond .eq 11, 3) := by decide +kernel
theorem dRM_splits_10 : decode bRM_splits 10 = .ok (.aload_n 0, 1) := by decide +kernel
theorem dRM_splits_11 : decode bRM_splits 11 = .ok (.iconst 5, 1) := by decide +kernel
theorem dRM_splits_12 : decode bRM_splits 12 = .ok (.invokevirtual 96, 3) := by decide +kernel
theorem dRM_splits_15 : decode bRM_splits 15 = .ok (.goto 14, 3) := by decide +kernel
theorem dRM_splits_18 : decode bRM_splits 18 = .ok (.aload_n 0, 1) := by decide +kernel
theorem dRM_splits_19 : decode bRM_splits 19 = .ok (.aload_n 0, 1) := by decide +kernel
theorem dRM_splits_20 : decode bRM_splits 20 = .ok (.getfield 64, 3) := by decide +kernel
theorem dRM_splits_23 : decode bRM_splits 23 = .ok (.invokevirtual 294, 3) := by decide +kernel
theorem dRM_splits_26 : decode bRM_splits 26 = .ok (.invokevirtual 122, 3) := by decide +kernel
theorem dRM_splits_29 : decode bRM_splits 29 = .ok (.ireturn, 1) := by decide +kernel
theorem dRM_clear_0 : decode bRM_clear 0 = .ok (.aload_n 0, 1) := by decide +kernel
theorem dRM_clear_1 : decode bRM_clear 1 = .ok (.getfield 64, 3) := by decide +kernel
theorem dRM_clear_4 : decode bRM_clear 4 = .ok (.invokevirtual 297, 3) := by decide +kernel
theorem dRM_clear_7 : decode bRM_clear 7 = .ok (.ireturn, 1) := by decide +kernel
theorem dRM_marks_0 : decode bRM_marks 0 = .ok (.aload_n 0, 1) := by decide +kernel
theorem dRM_marks_1 : decode bRM_marks 1 = .ok (.iload 4, 2) := by decide +kernel
theorem dRM_marks_3 : decode bRM_marks 3 = .ok (.invokevirtual 164, 3) := by decide +kernel
theorem dRM_marks_6 : decode bRM_marks 6 = .ok (.ifCond .eq 19, 3) := by decide +kernel
theorem dRM_marks_9 : decode bRM_marks 9 = .ok (.iload 5, 2) := by decide +kernel
theorem dRM_marks_11 : decode bRM_marks 11 = .ok (.invokestatic 212, 3) := by decide +kernel
theorem dRM_marks_14 : decode bRM_marks 14 = .ok (.ifCond .eq 11, 3) := by decide +kernel
theorem dRM_marks_17 : decode bRM_marks 17 = .ok (.iload 6, 2) := by decide +kernel
theorem dRM_marks_19 : decode bRM_marks 19 = .ok (.invokestatic 212, 3) := by decide +kernel
theorem dRM_marks_22 : decode bRM_marks 22 = .ok (.ifCond .ne 9, 3) := by decide +kernel
theorem dRM_marks_25 : decode bRM_marks 25 = .ok (.aload_n 0, 1) := by decide +kernel
theorem dRM_marks_26 : decode bRM_marks 26 = .ok (.iconst 1, 1) := by decide +kernel
theorem dRM_marks_27 : decode bRM_marks 27 = .ok (.invokevirtual 96, 3) := by decide +kernel
theorem dRM_marks_30 : decode bRM_marks 30 = .ok (.ireturn, 1) := by decide +kernel
theorem dRM_marks_31 : decode bRM_marks 31 = .ok (.iload_n 1, 1) := by decide +kernel
theorem dRM_marks_32 : decode bRM_marks 32 = .ok (.iload_n 2, 1) := by decide +kernel
theorem dRM_marks_33 : decode bRM_marks 33 = .ok (.iload_n 3, 1) := by decide +kernel
theorem dRM_marks_34 : decode bRM_marks 34 = .ok (.invokestatic 246, 3) := by decide +kernel
theorem dRM_marks_37 : decode bRM_marks 37 = .ok (.ifCond .eq 10, 3) := by decide +kernel
theorem dRM_marks_40 : decode bRM_marks 40 = .ok (.iload 6, 2) := by decide +kernel
theorem dRM_marks_42 : decode bRM_marks 42 = .ok (.iload 5, 2) := by decide +kernel
theorem dRM_marks_44 : decode bRM_marks 44 = .ok (.if_icmp .ge 9, 3) := by decide +kernel
theorem dRM_marks_47 : decode bRM_marks 47 = .ok (.aload_n 0, 1) := by decide +kernel
theorem dRM_marks_48 : decode bRM_marks 48 = .ok (.iconst 2, 1) := by decide +kernel
theorem dRM_marks_49 : decode bRM_marks 49 = .ok (.invokevirtual 96, 3) := by decide +kernel
theorem dRM_marks_52 : decode bRM_marks 52 = .ok (.ireturn, 1) := by decide +kernel
theorem dRM_marks_53 : decode bRM_marks 53 = .ok (.aload_n 0, 1) := by decide +kernel
theorem dRM_marks_54 : decode bRM_marks 54 = .ok (.getfield 75, 3) := by decide +kernel
theorem dRM_marks_57 : decode bRM_marks 57 = .ok (.aload_n 0, 1) := by decide +kernel
theorem dRM_marks_58 : decode bRM_marks 58 = .ok (.getfield 19, 3) := by decide +kernel
theorem dRM_marks_61 : decode bRM_marks 61 = .ok (.iload_n 1, 1) := by decide +kernel
theorem dRM_marks_62 : decode bRM_marks 62 = .ok (.iload_n 2, 1) := by decide +kernel
theorem dRM_marks_63 : decode bRM_marks 63 = .ok (.iload_n 3, 1) := by decide +kernel
theorem dRM_marks_64 : decode bRM_marks 64 = .ok (.invokestatic 250, 3) := by decide +kernel
theorem dRM_marks_67 : decode bRM_marks 67 = .ok (.invokevirtual 298, 3) := by decide +kernel
theorem dRM_marks_70 : decode bRM_marks 70 = .ok (.aload_n 0, 1) := by decide +kernel
theorem dRM_marks_71 : decode bRM_marks 71 = .ok (.getfield 71, 3) := by decide +kernel
theorem dRM_marks_74 : decode bRM_marks 74 = .ok (.invokevirtual 302, 3) := by decide +kernel
theorem dRM_marks_77 : decode bRM_marks 77 = .ok (.iconst 0, 1) := by decide +kernel
theorem dRM_marks_78 : decode bRM_marks 78 = .ok (.istore 7, 2) := by decide +kernel
theorem dRM_marks_80 : decode bRM_marks 80 = .ok (.iconst 0, 1) := by decide +kernel
theorem dRM_marks_81 : decode bRM_marks 81 = .ok (.istore 8, 2) := by decide +kernel
theorem dRM_marks_83 : decode bRM_marks 83 = .ok (.iload 8, 2) := by decide +kernel
theorem dRM_marks_85 : decode bRM_marks 85 = .ok (.iload 6, 2) := by decide +kernel
theorem dRM_marks_87 : decode bRM_marks 87 = .ok (.if_icmp .gt 68, 3) := by decide +kernel
theorem dRM_marks_90 : decode bRM_marks 90 = .ok (.iload 8, 2) := by decide +kernel
theorem dRM_marks_92 : decode bRM_marks 92 = .ok (.iload 5, 2) := by decide +kernel
theorem dRM_marks_94 : decode bRM_marks 94 = .ok (.if_icmp .ne 16, 3) := by decide +kernel
theorem dRM_marks_97 : decode bRM_marks 97 = .ok (.aload_n 0, 1) := by decide +kernel
theorem dRM_marks_98 : decode bRM_marks 98 = .ok (.getfield 71, 3) := by decide +kernel
theorem dRM_marks_101 : decode bRM_marks 101 = .ok (.getfield 170, 3) := by decide +kernel
theorem dRM_marks_104 : decode bRM_marks 104 = .ok (.iload 4, 2) := by decide +kernel
theorem dRM_marks_106 : decode bRM_marks 106 = .ok (.ldc_w 305, 3) := by decide +kernel
theorem dRM_marks_109 : decode bRM_marks 109 = .ok (.iastore, 1) := by decide +kernel
theorem dRM_marks_110 : decode bRM_marks 110 = .ok (.aload_n 0, 1) := by decide +kernel
theorem dRM_marks_111 : decode bRM_marks 111 = .ok (.getfield 75, 3) := by decide +kernel
theorem dRM_marks_114 : decode bRM_marks 114 = .ok (.aload_n 0, 1) := by decide +kernel
theorem dRM_marks_115 : decode bRM_marks 115 = .ok (.getfield 19, 3) := by decide +kernel
theorem dRM_marks_118 : decode bRM_marks 118 = .ok (.aload_n 0, 1) := by decide +kernel
theorem dRM_marks_119 : decode bRM_marks 119 = .ok (.getfield 37, 3) := by decide +kernel
theorem dRM_marks_122 : decode bRM_marks 122 = .ok (.iload 8, 2) := by decide +kernel
theorem dRM_marks_124 : decode bRM_marks 124 = .ok (.iconst 3, 1) := by decide +kernel
theorem dRM_marks_125 : decode bRM_marks 125 = .ok (.imul, 1) := by decide +kernel
theorem dRM_marks_126 : decode bRM_marks 126 = .ok (.invokevirtual 153, 3) := by decide +kernel
theorem dRM_marks_129 : decode bRM_marks 129 = .ok (.iload 7, 2) := by decide +kernel
theorem dRM_marks_131 : decode bRM_marks 131 = .ok (.aload_n 0, 1) := by decide +kernel
theorem dRM_marks_132 : decode bRM_marks 132 = .ok (.aload_n 0, 1) := by decide +kernel
theorem dRM_marks_133 : decode bRM_marks 133 = .ok (.getfield 37, 3) := by decide +kernel
theorem dRM_marks_136 : decode bRM_marks 136 = .ok (.iload 8, 2) := by decide +kernel
theorem dRM_marks_138 : decode bRM_marks 138 = .ok (.iconst 3, 1) := by decide +kernel
theorem dRM_marks_139 : decode bRM_marks 139 = .ok (.imul, 1) := by decide +kernel
theorem dRM_marks_140 : decode bRM_marks 140 = .ok (.iconst 1, 1) := by decide +kernel
theorem dRM_marks_141 : decode bRM_marks 141 = .ok (.iadd, 1) := by decide +kernel
theorem dRM_marks_142 : decode bRM_marks 142 = .ok (.iaload, 1) := by decide +kernel
theorem dRM_marks_143 : decode bRM_marks 143 = .ok (.invokevirtual 306, 3) := by decide +kernel
theorem dRM_marks_146 : decode bRM_marks 146 = .ok (.iadd, 1) := by decide +kernel
theorem dRM_marks_147 : decode bRM_marks 147 = .ok (.istore 7, 2) := by decide +kernel
theorem dRM_marks_149 : decode bRM_marks 149 = .ok (.iinc 8 1, 3) := by decide +kernel
theorem dRM_marks_152 : decode bRM_marks 152 = .ok (.goto (-69), 3) := by decide +kernel
theorem dRM_marks_155 : decode bRM_marks 155 = .ok (.aload_n 0, 1) := by decide +kernel
theorem dRM_marks_156 : decode bRM_marks 156 = .ok (.iload 7, 2) := by decide +kernel
theorem dRM_marks_158 : decode bRM_marks 158 = .ok (.invokevirtual 122, 3) := by decide +kernel
theorem dRM_marks_161 : decode bRM_marks 161 = .ok (.ireturn, 1) := by decide +kernel
theorem dRM_led_0 : decode bRM_led 0 = .ok (.iload_n 1, 1) := by decide +kernel
theorem dRM_led_1 : decode bRM_led 1 = .ok (.ifCond .lt 20, 3) := by decide +kernel
theorem dRM_led_4 : decode bRM_led 4 = .ok (.iload_n 1, 1) := by decide +kernel
theorem dRM_led_5 : decode bRM_led 5 = .ok (.aload_n 0, 1) := by decide +kernel
theorem dRM_led_6 : decode bRM_led 6 = .ok (.getfield 309, 3) := by decide +kernel
theorem dRM_led_9 : decode bRM_led 9 = .ok (.if_icmp .ge 12, 3) := by decide +kernel
theorem dRM_led_12 : decode bRM_led 12 = .ok (.iload_n 1, 1) := by decide +kernel
theorem dRM_led_13 : decode bRM_led 13 = .ok (.aload_n 0, 1) := by decide +kernel
theorem dRM_led_14 : decode bRM_led 14 = .ok (.getfield 78, 3) := by decide +kernel
theorem dRM_led_17 : decode bRM_led 17 = .ok (.arraylength, 1) := by decide +kernel
theorem dRM_led_18 : decode bRM_led 18 = .ok (.if_icmp .lt 14, 3) := by decide +kernel
theorem dRM_led_21 : decode bRM_led 21 = .ok (.new 312, 3) := by decide +kernel
theorem dRM_led_24 : decode bRM_led 24 = .ok (.dup, 1) := by decide +kernel
theorem dRM_led_25 : decode bRM_led 25 = .ok (.ldc_w 314, 3) := by decide +kernel
theorem dRM_led_28 : decode bRM_led 28 = .ok (.invokespecial 316, 3) := by decide +kernel
theorem dRM_led_31 : decode bRM_led 31 = .ok (.athrow, 1) := by decide +kernel
theorem dRM_led_32 : decode bRM_led 32 = .ok (.aload_n 0, 1) := by decide +kernel
theorem dRM_led_33 : decode bRM_led 33 = .ok (.getfield 78, 3) := by decide +kernel
theorem dRM_led_36 : decode bRM_led 36 = .ok (.iload_n 1, 1) := by decide +kernel
theorem dRM_led_37 : decode bRM_led 37 = .ok (.iaload, 1) := by decide +kernel
theorem dRM_led_38 : decode bRM_led 38 = .ok (.ireturn, 1) := by decide +kernel
theorem dRM_size_0 : decode bRM_size 0 = .ok (.iload_n 1, 1) := by decide +kernel
theorem dRM_size_1 : decode bRM_size 1 = .ok (.tableswitch 163 0 11 #[63, 71, 79, 87, 95, 107, 115, 123, 131, 139, 147, 155], 63) := by decide +kernel
theorem dRM_size_64 : decode bRM_size 64 = .ok (.aload_n 0, 1) := by decide +kernel
theorem dRM_size_65 : decode bRM_size 65 = .ok (.getfield 19, 3) := by decide +kernel
theorem dRM_size_68 : decode bRM_size 68 = .ok (.getfield 119, 3) := by decide +kernel
theorem dRM_size_71 : decode bRM_size 71 = .ok (.ireturn, 1) := by decide +kernel
theorem dRM_size_72 : decode bRM_size 72 = .ok (.aload_n 0, 1) := by decide +kernel
theorem dRM_size_73 : decode bRM_size 73 = .ok (.getfield 19, 3) := by decide +kernel
theorem dRM_size_76 : decode bRM_size 76 = .ok (.getfield 319, 3) := by decide +kernel
theorem dRM_size_79 : decode bRM_size 79 = .ok (.ireturn, 1) := by decide +kernel
theorem dRM_size_80 : decode bRM_size 80 = .ok (.aload_n 0, 1) := by decide +kernel
theorem dRM_size_81 : decode bRM_size 81 = .ok (.getfield 19, 3) := by decide +kernel
theorem dRM_size_84 : decode bRM_size 84 = .ok (.getfield 322, 3) := by decide +kernel
theorem dRM_size_87 : decode bRM_size 87 = .ok (.ireturn, 1) := by decide +kernel
theorem dRM_size_88 : decode bRM_size 88 = .ok (.aload_n 0, 1) := by decide +kernel
theorem dRM_size_89 : decode bRM_size 89 = .ok (.getfield 19, 3) := by decide +kernel
theorem dRM_size_92 : decode bRM_size 92 = .ok (.getfield 325, 3) := by decide +kernel
theorem dRM_size_95 : decode bRM_size 95 = .ok (.ireturn, 1) := by decide +kernel
theorem dRM_size_96 : decode bRM_size 96 = .ok (.aload_n 0, 1) := by decide +kernel
theorem dRM_size_97 : decode bRM_size 97 = .ok (.getfield 19, 3) := by decide +kernel
theorem dRM_size_100 : decode bRM_size 100 = .ok (.getfield 328, 3) := by decide +kernel
theorem dRM_size_103 : decode bRM_size 103 = .ok (.iconst 0, 1) := by decide +kernel
theorem dRM_size_104 : decode bRM_size 104 = .ok (.invokestatic 331, 3) := by decide +kernel
theorem dRM_size_107 : decode bRM_size 107 = .ok (.ireturn, 1) := by decide +kernel
theorem dRM_size_108 : decode bRM_size 108 = .ok (.aload_n 0, 1) := by decide +kernel
theorem dRM_size_109 : decode bRM_size 109 = .ok (.getfield 19, 3) := by decide +kernel
theorem dRM_size_112 : decode bRM_size 112 = .ok (.getfield 336, 3) := by decide +kernel
theorem dRM_size_115 : decode bRM_size 115 = .ok (.ireturn, 1) := by decide +kernel
theorem dRM_size_116 : decode bRM_size 116 = .ok (.aload_n 0, 1) := by decide +kernel
theorem dRM_size_117 : decode bRM_size 117 = .ok (.getfield 19, 3) := by decide +kernel
theorem dRM_size_120 : decode bRM_size 120 = .ok (.getfield 339, 3) := by decide +kernel
theorem dRM_size_123 : decode bRM_size 123 = .ok (.ireturn, 1) := by decide +kernel
theorem dRM_size_124 : decode bRM_size 124 = .ok (.aload_n 0, 1) := by decide +kernel
theorem dRM_size_125 : decode bRM_size 125 = .ok (.getfield 19, 3) := by decide +kernel
theorem dRM_size_128 : decode bRM_size 128 = .ok (.getfield 342, 3) := by decide +kernel
theorem dRM_size_131 : decode bRM_size 131 = .ok (.ireturn, 1) := by decide +kernel
theorem dRM_size_132 : decode bRM_size 132 = .ok (.aload_n 0, 1) := by decide +kernel
theorem dRM_size_133 : decode bRM_size 133 = .ok (.getfield 19, 3) := by decide +kernel
theorem dRM_size_136 : decode bRM_size 136 = .ok (.getfield 345, 3) := by decide +kernel
theorem dRM_size_139 : decode bRM_size 139 = .ok (.ireturn, 1) := by decide +kernel
theorem dRM_size_140 : decode bRM_size 140 = .ok (.aload_n 0, 1) := by decide +kernel
theorem dRM_size_141 : decode bRM_size 141 = .ok (.getfield 19, 3) := by decide +kernel
theorem dRM_size_144 : decode bRM_size 144 = .ok (.getfield 348, 3) := by decide +kernel
theorem dRM_size_147 : decode bRM_size 147 = .ok (.ireturn, 1) := by decide +kernel
theorem dRM_size_148 : decode bRM_size 148 = .ok (.aload_n 0, 1) := by decide +kernel
theorem dRM_size_149 : decode bRM_size 149 = .ok (.getfield 50, 3) := by decide +kernel
theorem dRM_size_152 : decode bRM_size 152 = .ok (.getfield 351, 3) := by decide +kernel
theorem dRM_size_155 : decode bRM_size 155 = .ok (.ireturn, 1) := by decide +kernel
theorem dRM_size_156 : decode bRM_size 156 = .ok (.aload_n 0, 1) := by decide +kernel
theorem dRM_size_157 : decode bRM_size 157 = .ok (.getfield 12, 3) := by decide +kernel
theorem dRM_size_160 : decode bRM_size 160 = .ok (.getfield 93, 3) := by decide +kernel
theorem dRM_size_163 : decode bRM_size 163 = .ok (.ireturn, 1) := by decide +kernel
theorem dRM_size_164 : decode bRM_size 164 = .ok (.iconst (-1), 1) := by decide +kernel
theorem dRM_size_165 : decode bRM_size 165 = .ok (.ireturn, 1) := by decide +kernel
theorem dRM_trouble_0 : decode bRM_trouble 0 = .ok (.aload_n 0, 1) := by decide +kernel
theorem dRM_trouble_1 : decode bRM_trouble 1 = .ok (.getfield 81, 3) := by decide +kernel
theorem dRM_trouble_4 : decode bRM_trouble 4 = .ok (.ireturn, 1) := by decide +kernel
theorem dRM_refuse_0 : decode bRM_refuse 0 = .ok (.aload_n 0, 1) := by decide +kernel
theorem dRM_refuse_1 : decode bRM_refuse 1 = .ok (.iload_n 1, 1) := by decide +kernel
theorem dRM_refuse_2 : decode bRM_refuse 2 = .ok (.putfield 81, 3) := by decide +kernel
theorem dRM_refuse_5 : decode bRM_refuse 5 = .ok (.iconst (-1), 1) := by decide +kernel
theorem dRM_refuse_6 : decode bRM_refuse 6 = .ok (.ireturn, 1) := by decide +kernel
theorem dRM_accept_0 : decode bRM_accept 0 = .ok (.aload_n 0, 1) := by decide +kernel
theorem dRM_accept_1 : decode bRM_accept 1 = .ok (.iconst 0, 1) := by decide +kernel
theorem dRM_accept_2 : decode bRM_accept 2 = .ok (.putfield 81, 3) := by decide +kernel
theorem dRM_accept_5 : decode bRM_accept 5 = .ok (.iload_n 1, 1) := by decide +kernel
theorem dRM_accept_6 : decode bRM_accept 6 = .ok (.ireturn, 1) := by decide +kernel
theorem dRM_deny_0 : decode bRM_deny 0 = .ok (.aload_n 0, 1) := by decide +kernel
theorem dRM_deny_1 : decode bRM_deny 1 = .ok (.iload_n 1, 1) := by decide +kernel
theorem dRM_deny_2 : decode bRM_deny 2 = .ok (.putfield 81, 3) := by decide +kernel
theorem dRM_deny_5 : decode bRM_deny 5 = .ok (.iconst 0, 1) := by decide +kernel
theorem dRM_deny_6 : decode bRM_deny 6 = .ok (.ireturn, 1) := by decide +kernel
theorem dRM_allow_0 : decode bRM_allow 0 = .ok (.aload_n 0, 1) := by decide +kernel
theorem dRM_allow_1 : decode bRM_allow 1 = .ok (.iconst 0, 1) := by decide +kernel
theorem dRM_allow_2 : decode bRM_allow 2 = .ok (.putfield 81, 3) := by decide +kernel
theorem dRM_allow_5 : decode bRM_allow 5 = .ok (.iconst 1, 1) := by decide +kernel
theorem dRM_allow_6 : decode bRM_allow 6 = .ok (.ireturn, 1) := by decide +kernel
theorem dRM_noMill_0 : decode bRM_noMill 0 = .ok (.aload_n 0, 1) := by decide +kernel
theorem dRM_noMill_1 : decode bRM_noMill 1 = .ok (.getfield 19, 3) := by decide +kernel
theorem dRM_noMill_4 : decode bRM_noMill 4 = .ok (.getfield 119, 3) := by decide +kernel
theorem dRM_noMill_7 : decode bRM_noMill 7 = .ok (.ifCond .ne 7, 3) := by decide +kernel
theorem dRM_noMill_10 : decode bRM_noMill 10 = .ok (.iconst 1, 1) := by decide +kernel
theorem dRM_noMill_11 : decode bRM_noMill 11 = .ok (.goto 4, 3) := by decide +kernel
theorem dRM_noMill_14 : decode bRM_noMill 14 = .ok (.iconst 0, 1) := by decide +kernel
theorem dRM_noMill_15 : decode bRM_noMill 15 = .ok (.ireturn, 1) := by decide +kernel
theorem dRM_isSize_0 : decode bRM_isSize 0 = .ok (.iload_n 1, 1) := by decide +kernel
theorem dRM_isSize_1 : decode bRM_isSize 1 = .ok (.ifCond .lt 23, 3) := by decide +kernel
theorem dRM_isSize_4 : decode bRM_isSize 4 = .ok (.iload_n 1, 1) := by decide +kernel
theorem dRM_isSize_5 : decode bRM_isSize 5 = .ok (.aload_n 0, 1) := by decide +kernel
theorem dRM_isSize_6 : decode bRM_isSize 6 = .ok (.getfield 19, 3) := by decide +kernel
theorem dRM_isSize_9 : decode bRM_isSize 9 = .ok (.getfield 119, 3) := by decide +kernel
theorem dRM_isSize_12 : decode bRM_isSize 12 = .ok (.if_icmp .ge 12, 3) := by decide +kernel
theorem dRM_isSize_15 : decode bRM_isSize 15 = .ok (.iload_n 1, 1) := by decide +kernel
theorem dRM_isSize_16 : decode bRM_isSize 16 = .ok (.iconst 5, 1) := by decide +kernel
theorem dRM_isSize_17 : decode bRM_isSize 17 = .ok (.if_icmp .ge 7, 3) := by decide +kernel
theorem dRM_isSize_20 : decode bRM_isSize 20 = .ok (.iconst 1, 1) := by decide +kernel
theorem dRM_isSize_21 : decode bRM_isSize 21 = .ok (.goto 4, 3) := by decide +kernel
theorem dRM_isSize_24 : decode bRM_isSize 24 = .ok (.iconst 0, 1) := by decide +kernel
theorem dRM_isSize_25 : decode bRM_isSize 25 = .ok (.ireturn, 1) := by decide +kernel
theorem dRM_isOre_0 : decode bRM_isOre 0 = .ok (.iload_n 1, 1) := by decide +kernel
theorem dRM_isOre_1 : decode bRM_isOre 1 = .ok (.ifCond .lt 18, 3) := by decide +kernel
theorem dRM_isOre_4 : decode bRM_isOre 4 = .ok (.iload_n 1, 1) := by decide +kernel
theorem dRM_isOre_5 : decode bRM_isOre 5 = .ok (.aload_n 0, 1) := by decide +kernel
theorem dRM_isOre_6 : decode bRM_isOre 6 = .ok (.getfield 19, 3) := by decide +kernel
theorem dRM_isOre_9 : decode bRM_isOre 9 = .ok (.getfield 319, 3) := by decide +kernel
theorem dRM_isOre_12 : decode bRM_isOre 12 = .ok (.if_icmp .ge 7, 3) := by decide +kernel
theorem dRM_isOre_15 : decode bRM_isOre 15 = .ok (.iconst 1, 1) := by decide +kernel
theorem dRM_isOre_16 : decode bRM_isOre 16 = .ok (.goto 4, 3) := by decide +kernel
theorem dRM_isOre_19 : decode bRM_isOre 19 = .ok (.iconst 0, 1) := by decide +kernel
theorem dRM_isOre_20 : decode bRM_isOre 20 = .ok (.ireturn, 1) := by decide +kernel
theorem dRM_isHeard_0 : decode bRM_isHeard 0 = .ok (.iload_n 1, 1) := by decide +kernel
theorem dRM_isHeard_1 : decode bRM_isHeard 1 = .ok (.ifCond .lt 20, 3) := by decide +kernel
theorem dRM_isHeard_4 : decode bRM_isHeard 4 = .ok (.iload_n 1, 1) := by decide +kernel
theorem dRM_isHeard_5 : decode bRM_isHeard 5 = .ok (.iconst 2, 1) := by decide +kernel
theorem dRM_isHeard_6 : decode bRM_isHeard 6 = .ok (.aload_n 0, 1) := by decide +kernel
theorem dRM_isHeard_7 : decode bRM_isHeard 7 = .ok (.getfield 19, 3) := by decide +kernel
theorem dRM_isHeard_10 : decode bRM_isHeard 10 = .ok (.getfield 119, 3) := by decide +kernel
theorem dRM_isHeard_13 : decode bRM_isHeard 13 = .ok (.iadd, 1) := by decide +kernel
theorem dRM_isHeard_14 : decode bRM_isHeard 14 = .ok (.if_icmp .ge 7, 3) := by decide +kernel
theorem dRM_isHeard_17 : decode bRM_isHeard 17 = .ok (.iconst 1, 1) := by decide +kernel
theorem dRM_isHeard_18 : decode bRM_isHeard 18 = .ok (.goto 4, 3) := by decide +kernel
theorem dRM_isHeard_21 : decode bRM_isHeard 21 = .ok (.iconst 0, 1) := by decide +kernel
theorem dRM_isHeard_22 : decode bRM_isHeard 22 = .ok (.ireturn, 1) := by decide +kernel
theorem dRM_isRate_0 : decode bRM_isRate 0 = .ok (.iload_n 0, 1) := by decide +kernel
theorem dRM_isRate_1 : decode bRM_isRate 1 = .ok (.ifCond .lt 12, 3) := by decide +kernel
theorem dRM_isRate_4 : decode bRM_isRate 4 = .ok (.iload_n 0, 1) := by decide +kernel
theorem dRM_isRate_5 : decode bRM_isRate 5 = .ok (.iconst 3, 1) := by decide +kernel
theorem dRM_isRate_6 : decode bRM_isRate 6 = .ok (.if_icmp .gt 7, 3) := by decide +kernel
theorem dRM_isRate_9 : decode bRM_isRate 9 = .ok (.iconst 1, 1) := by decide +kernel
theorem dRM_isRate_10 : decode bRM_isRate 10 = .ok (.goto 4, 3) := by decide +kernel
theorem dRM_isRate_13 : decode bRM_isRate 13 = .ok (.iconst 0, 1) := by decide +kernel
theorem dRM_isRate_14 : decode bRM_isRate 14 = .ok (.ireturn, 1) := by decide +kernel
theorem dRM_isWater_0 : decode bRM_isWater 0 = .ok (.iload_n 0, 1) := by decide +kernel
theorem dRM_isWater_1 : decode bRM_isWater 1 = .ok (.ifCond .lt 12, 3) := by decide +kernel
theorem dRM_isWater_4 : decode bRM_isWater 4 = .ok (.iload_n 0, 1) := by decide +kernel
theorem dRM_isWater_5 : decode bRM_isWater 5 = .ok (.iconst 3, 1) := by decide +kernel
theorem dRM_isWater_6 : decode bRM_isWater 6 = .ok (.if_icmp .gt 7, 3) := by decide +kernel
theorem dRM_isWater_9 : decode bRM_isWater 9 = .ok (.iconst 1, 1) := by decide +kernel
theorem dRM_isWater_10 : decode bRM_isWater 10 = .ok (.goto 4, 3) := by decide +kernel
theorem dRM_isWater_13 : decode bRM_isWater 13 = .ok (.iconst 0, 1) := by decide +kernel
theorem dRM_isWater_14 : decode bRM_isWater 14 = .ok (.ireturn, 1) := by decide +kernel
theorem dRM_isHour_0 : decode bRM_isHour 0 = .ok (.iload_n 0, 1) := by decide +kernel
theorem dRM_isHour_1 : decode bRM_isHour 1 = .ok (.ifCond .lt 13, 3) := by decide +kernel
theorem dRM_isHour_4 : decode bRM_isHour 4 = .ok (.iload_n 0, 1) := by decide +kernel
theorem dRM_isHour_5 : decode bRM_isHour 5 = .ok (.bipush 12, 2) := by decide +kernel
theorem dRM_isHour_7 : decode bRM_isHour 7 = .ok (.if_icmp .ge 7, 3) := by decide +kernel
theorem dRM_isHour_10 : decode bRM_isHour 10 = .ok (.iconst 1, 1) := by decide +kernel
theorem dRM_isHour_11 : decode bRM_isHour 11 = .ok (.goto 4, 3) := by decide +kernel
theorem dRM_isHour_14 : decode bRM_isHour 14 = .ok (.iconst 0, 1) := by decide +kernel
theorem dRM_isHour_15 : decode bRM_isHour 15 = .ok (.ireturn, 1) := by decide +kernel
theorem dRM_isPlanLength_0 : decode bRM_isPlanLength 0 = .ok (.iload_n 0, 1) := by decide +kernel
theorem dRM_isPlanLength_1 : decode bRM_isPlanLength 1 = .ok (.iconst 1, 1) := by decide +kernel
theorem dRM_isPlanLength_2 : decode bRM_isPlanLength 2 = .ok (.if_icmp .lt 12, 3) := by decide +kernel
theorem dRM_isPlanLength_5 : decode bRM_isPlanLength 5 = .ok (.iload_n 0, 1) := by decide +kernel
theorem dRM_isPlanLength_6 : decode bRM_isPlanLength 6 = .ok (.iconst 5, 1) := by decide +kernel
theorem dRM_isPlanLength_7 : decode bRM_isPlanLength 7 = .ok (.if_icmp .gt 7, 3) := by decide +kernel
theorem dRM_isPlanLength_10 : decode bRM_isPlanLength 10 = .ok (.iconst 1, 1) := by decide +kernel
theorem dRM_isPlanLength_11 : decode bRM_isPlanLength 11 = .ok (.goto 4, 3) := by decide +kernel
theorem dRM_isPlanLength_14 : decode bRM_isPlanLength 14 = .ok (.iconst 0, 1) := by decide +kernel
theorem dRM_isPlanLength_15 : decode bRM_isPlanLength 15 = .ok (.ireturn, 1) := by decide +kernel
theorem dRM_isStart_0 : decode bRM_isStart 0 = .ok (.iload_n 0, 1) := by decide +kernel
theorem dRM_isStart_1 : decode bRM_isStart 1 = .ok (.ifCond .lt 30, 3) := by decide +kernel
theorem dRM_isStart_4 : decode bRM_isStart 4 = .ok (.iload_n 0, 1) := by decide +kernel
theorem dRM_isStart_5 : decode bRM_isStart 5 = .ok (.iconst 3, 1) := by decide +kernel
theorem dRM_isStart_6 : decode bRM_isStart 6 = .ok (.if_icmp .gt 25, 3) := by decide +kernel
theorem dRM_isStart_9 : decode bRM_isStart 9 = .ok (.iload_n 1, 1) := by decide +kernel
theorem dRM_isStart_10 : decode bRM_isStart 10 = .ok (.ifCond .lt 21, 3) := by decide +kernel
theorem dRM_isStart_13 : decode bRM_isStart 13 = .ok (.iload_n 1, 1) := by decide +kernel
theorem dRM_isStart_14 : decode bRM_isStart 14 = .ok (.iconst 5, 1) := by decide +kernel
theorem dRM_isStart_15 : decode bRM_isStart 15 = .ok (.if_icmp .ge 16, 3) := by decide +kernel
theorem dRM_isStart_18 : decode bRM_isStart 18 = .ok (.iload_n 2, 1) := by decide +kernel
theorem dRM_isStart_19 : decode bRM_isStart 19 = .ok (.ifCond .lt 12, 3) := by decide +kernel
theorem dRM_isStart_22 : decode bRM_isStart 22 = .ok (.iload_n 2, 1) := by decide +kernel
theorem dRM_isStart_23 : decode bRM_isStart 23 = .ok (.iconst 5, 1) := by decide +kernel
theorem dRM_isStart_24 : decode bRM_isStart 24 = .ok (.if_icmp .ge 7, 3) := by decide +kernel
theorem dRM_isStart_27 : decode bRM_isStart 27 = .ok (.iconst 1, 1) := by decide +kernel
theorem dRM_isStart_28 : decode bRM_isStart 28 = .ok (.goto 4, 3) := by decide +kernel
theorem dRM_isStart_31 : decode bRM_isStart 31 = .ok (.iconst 0, 1) := by decide +kernel
theorem dRM_isStart_32 : decode bRM_isStart 32 = .ok (.ireturn, 1) := by decide +kernel
theorem dRM_startOf_0 : decode bRM_startOf 0 = .ok (.iload_n 0, 1) := by decide +kernel
theorem dRM_startOf_1 : decode bRM_startOf 1 = .ok (.iconst 5, 1) := by decide +kernel
theorem dRM_startOf_2 : decode bRM_startOf 2 = .ok (.imul, 1) := by decide +kernel
theorem dRM_startOf_3 : decode bRM_startOf 3 = .ok (.iload_n 1, 1) := by decide +kernel
theorem dRM_startOf_4 : decode bRM_startOf 4 = .ok (.iadd, 1) := by decide +kernel
theorem dRM_startOf_5 : decode bRM_startOf 5 = .ok (.iconst 5, 1) := by decide +kernel
theorem dRM_startOf_6 : decode bRM_startOf 6 = .ok (.imul, 1) := by decide +kernel
theorem dRM_startOf_7 : decode bRM_startOf 7 = .ok (.iload_n 2, 1) := by decide +kernel
theorem dRM_startOf_8 : decode bRM_startOf 8 = .ok (.iadd, 1) := by decide +kernel
theorem dRM_startOf_9 : decode bRM_startOf 9 = .ok (.ireturn, 1) := by decide +kernel
theorem dRM_partOfStart_0 : decode bRM_partOfStart 0 = .ok (.iload_n 1, 1) := by decide +kernel
theorem dRM_partOfStart_1 : decode bRM_partOfStart 1 = .ok (.ifCond .ne 8, 3) := by decide +kernel
theorem dRM_partOfStart_4 : decode bRM_partOfStart 4 = .ok (.iload_n 0, 1) := by decide +kernel
theorem dRM_partOfStart_5 : decode bRM_partOfStart 5 = .ok (.bipush 25, 2) := by decide +kernel
theorem dRM_partOfStart_7 : decode bRM_partOfStart 7 = .ok (.idiv, 1) := by decide +kernel
theorem dRM_partOfStart_8 : decode bRM_partOfStart 8 = .ok (.ireturn, 1) := by decide +kernel
theorem dRM_partOfStart_9 : decode bRM_partOfStart 9 = .ok (.iload_n 1, 1) := by decide +kernel
theorem dRM_partOfStart_10 : decode bRM_partOfStart 10 = .ok (.iconst 1, 1) := by decide +kernel
theorem dRM_partOfStart_11 : decode bRM_partOfStart 11 = .ok (.if_icmp .ne 11, 3) := by decide +kernel
theorem dRM_partOfStart_14 : decode bRM_partOfStart 14 = .ok (.iload_n 0, 1) := by decide +kernel
theorem dRM_partOfStart_15 : decode bRM_partOfStart 15 = .ok (.iconst 5, 1) := by decide +kernel
theorem dRM_partOfStart_16 : decode bRM_partOfStart 16 = .ok (.idiv, 1) := by decide +kernel
theorem dRM_partOfStart_17 : decode bRM_partOfStart 17 = .ok (.iconst 5, 1) := by decide +kernel
theorem dRM_partOfStart_18 : decode bRM_partOfStart 18 = .ok (.irem, 1) := by decide +kernel
theorem dRM_partOfStart_19 : decode bRM_partOfStart 19 = .ok (.goto 6, 3) := by decide +kernel
theorem dRM_partOfStart_22 : decode bRM_partOfStart 22 = .ok (.iload_n 0, 1) := by decide +kernel
theorem dRM_partOfStart_23 : decode bRM_partOfStart 23 = .ok (.iconst 5, 1) := by decide +kernel
theorem dRM_partOfStart_24 : decode bRM_partOfStart 24 = .ok (.irem, 1) := by decide +kernel
theorem dRM_partOfStart_25 : decode bRM_partOfStart 25 = .ok (.ireturn, 1) := by decide +kernel
theorem dRM_share_0 : decode bRM_share 0 = .ok (.iload_n 2, 1) := by decide +kernel
theorem dRM_share_1 : decode bRM_share 1 = .ok (.ifCond .le 15, 3) := by decide +kernel
theorem dRM_share_4 : decode bRM_share 4 = .ok (.iload_n 0, 1) := by decide +kernel
theorem dRM_share_5 : decode bRM_share 5 = .ok (.i2l, 1) := by decide +kernel
theorem dRM_share_6 : decode bRM_share 6 = .ok (.iload_n 1, 1) := by decide +kernel
theorem dRM_share_7 : decode bRM_share 7 = .ok (.i2l, 1) := by decide +kernel
theorem dRM_share_8 : decode bRM_share 8 = .ok (.lmul, 1) := by decide +kernel
theorem dRM_share_9 : decode bRM_share 9 = .ok (.iload_n 2, 1) := by decide +kernel
theorem dRM_share_10 : decode bRM_share 10 = .ok (.i2l, 1) := by decide +kernel
theorem dRM_share_11 : decode bRM_share 11 = .ok (.ldiv, 1) := by decide +kernel
theorem dRM_share_12 : decode bRM_share 12 = .ok (.l2i, 1) := by decide +kernel
theorem dRM_share_13 : decode bRM_share 13 = .ok (.goto 4, 3) := by decide +kernel
theorem dRM_share_16 : decode bRM_share 16 = .ok (.iconst 0, 1) := by decide +kernel
theorem dRM_share_17 : decode bRM_share 17 = .ok (.ireturn, 1) := by decide +kernel
theorem dRM_beginAnew_0 : decode bRM_beginAnew 0 = .ok (.aload_n 0, 1) := by decide +kernel
theorem dRM_beginAnew_1 : decode bRM_beginAnew 1 = .ok (.getfield 29, 3) := by decide +kernel
theorem dRM_beginAnew_4 : decode bRM_beginAnew 4 = .ok (.invokevirtual 354, 3) := by decide +kernel
theorem dRM_beginAnew_7 : decode bRM_beginAnew 7 = .ok (.aload_n 0, 1) := by decide +kernel
theorem dRM_beginAnew_8 : decode bRM_beginAnew 8 = .ok (.getfield 33, 3) := by decide +kernel
theorem dRM_beginAnew_11 : decode bRM_beginAnew 11 = .ok (.iconst 0, 1) := by decide +kernel
theorem dRM_beginAnew_12 : decode bRM_beginAnew 12 = .ok (.iconst 1, 1) := by decide +kernel
theorem dRM_beginAnew_13 : decode bRM_beginAnew 13 = .ok (.iastore, 1) := by decide +kernel
theorem dRM_beginAnew_14 : decode bRM_beginAnew 14 = .ok (.aload_n 0, 1) := by decide +kernel
theorem dRM_beginAnew_15 : decode bRM_beginAnew 15 = .ok (.getfield 33, 3) := by decide +kernel
theorem dRM_beginAnew_18 : decode bRM_beginAnew 18 = .ok (.iconst 1, 1) := by decide +kernel
theorem dRM_beginAnew_19 : decode bRM_beginAnew 19 = .ok (.iconst 1, 1) := by decide +kernel
theorem dRM_beginAnew_20 : decode bRM_beginAnew 20 = .ok (.iastore, 1) := by decide +kernel
theorem dRM_beginAnew_21 : decode bRM_beginAnew 21 = .ok (.aload_n 0, 1) := by decide +kernel
theorem dRM_beginAnew_22 : decode bRM_beginAnew 22 = .ok (.getfield 33, 3) := by decide +kernel
theorem dRM_beginAnew_25 : decode bRM_beginAnew 25 = .ok (.iconst 2, 1) := by decide +kernel
theorem dRM_beginAnew_26 : decode bRM_beginAnew 26 = .ok (.iconst 0, 1) := by decide +kernel
theorem dRM_beginAnew_27 : decode bRM_beginAnew 27 = .ok (.iastore, 1) := by decide +kernel
theorem dRM_beginAnew_28 : decode bRM_beginAnew 28 = .ok (.iconst 0, 1) := by decide +kernel
theorem dRM_beginAnew_29 : decode bRM_beginAnew 29 = .ok (.istore_n 1, 1) := by decide +kernel
theorem dRM_beginAnew_30 : decode bRM_beginAnew 30 = .ok (.iload_n 1, 1) := by decide +kernel
theorem dRM_beginAnew_31 : decode bRM_beginAnew 31 = .ok (.bipush 12, 2) := by decide +kernel
theorem dRM_beginAnew_33 : decode bRM_beginAnew 33 = .ok (.if_icmp .ge 42, 3) := by decide +kernel
theorem dRM_beginAnew_36 : decode bRM_beginAnew 36 = .ok (.aload_n 0, 1) := by decide +kernel
theorem dRM_beginAnew_37 : decode bRM_beginAnew 37 = .ok (.getfield 37, 3) := by decide +kernel
theorem dRM_beginAnew_40 : decode bRM_beginAnew 40 = .ok (.iload_n 1, 1) := by decide +kernel
theorem dRM_beginAnew_41 : decode bRM_beginAnew 41 = .ok (.iconst 3, 1) := by decide +kernel
theorem dRM_beginAnew_42 : decode bRM_beginAnew 42 = .ok (.imul, 1) := by decide +kernel
theorem dRM_beginAnew_43 : decode bRM_beginAnew 43 = .ok (.iconst 0, 1) := by decide +kernel
theorem dRM_beginAnew_44 : decode bRM_beginAnew 44 = .ok (.iadd, 1) := by decide +kernel
theorem dRM_beginAnew_45 : decode bRM_beginAnew 45 = .ok (.iconst 1, 1) := by decide +kernel
theorem dRM_beginAnew_46 : decode bRM_beginAnew 46 = .ok (.iastore, 1) := by decide +kernel
theorem dRM_beginAnew_47 : decode bRM_beginAnew 47 = .ok (.aload_n 0, 1) := by decide +kernel
theorem dRM_beginAnew_48 : decode bRM_beginAnew 48 = .ok (.getfield 37, 3) := by decide +kernel
theorem dRM_beginAnew_51 : decode bRM_beginAnew 51 = .ok (.iload_n 1, 1) := by decide +kernel
theorem dRM_beginAnew_52 : decode bRM_beginAnew 52 = .ok (.iconst 3, 1) := by decide +kernel
theorem dRM_beginAnew_53 : decode bRM_beginAnew 53 = .ok (.imul, 1) := by decide +kernel
theorem dRM_beginAnew_54 : decode bRM_beginAnew 54 = .ok (.iconst 1, 1) := by decide +kernel
theorem dRM_beginAnew_55 : decode bRM_beginAnew 55 = .ok (.iadd, 1) := by decide +kernel
theorem dRM_beginAnew_56 : decode bRM_beginAnew 56 = .ok (.iconst 1, 1) := by decide +kernel
theorem dRM_beginAnew_57 : decode bRM_beginAnew 57 = .ok (.iastore, 1) := by decide +kernel
theorem dRM_beginAnew_58 : decode bRM_beginAnew 58 = .ok (.aload_n 0, 1) := by decide +kernel
theorem dRM_beginAnew_59 : decode bRM_beginAnew 59 = .ok (.getfield 37, 3) := by decide +kernel
theorem dRM_beginAnew_62 : decode bRM_beginAnew 62 = .ok (.iload_n 1, 1) := by decide +kernel
theorem dRM_beginAnew_63 : decode bRM_beginAnew 63 = .ok (.iconst 3, 1) := by decide +kernel
theorem dRM_beginAnew_64 : decode bRM_beginAnew 64 = .ok (.imul, 1) := by decide +kernel
theorem dRM_beginAnew_65 : decode bRM_beginAnew 65 = .ok (.iconst 2, 1) := by decide +kernel
theorem dRM_beginAnew_66 : decode bRM_beginAnew 66 = .ok (.iadd, 1) := by decide +kernel
theorem dRM_beginAnew_67 : decode bRM_beginAnew 67 = .ok (.iconst 0, 1) := by decide +kernel
theorem dRM_beginAnew_68 : decode bRM_beginAnew 68 = .ok (.iastore, 1) := by decide +kernel
theorem dRM_beginAnew_69 : decode bRM_beginAnew 69 = .ok (.iinc 1 1, 3) := by decide +kernel
theorem dRM_beginAnew_72 : decode bRM_beginAnew 72 = .ok (.goto (-42), 3) := by decide +kernel
theorem dRM_beginAnew_75 : decode bRM_beginAnew 75 = .ok (.aload_n 0, 1) := by decide +kernel
theorem dRM_beginAnew_76 : decode bRM_beginAnew 76 = .ok (.getfield 43, 3) := by decide +kernel
theorem dRM_beginAnew_79 : decode bRM_beginAnew 79 = .ok (.invokevirtual 215, 3) := by decide +kernel
theorem dRM_beginAnew_82 : decode bRM_beginAnew 82 = .ok (.aload_n 0, 1) := by decide +kernel
theorem dRM_beginAnew_83 : decode bRM_beginAnew 83 = .ok (.getfield 50, 3) := by decide +kernel
theorem dRM_beginAnew_86 : decode bRM_beginAnew 86 = .ok (.invokevirtual 232, 3) := by decide +kernel
theorem dRM_beginAnew_89 : decode bRM_beginAnew 89 = .ok (.pop, 1) := by decide +kernel
theorem dRM_beginAnew_90 : decode bRM_beginAnew 90 = .ok (.aload_n 0, 1) := by decide +kernel
theorem dRM_beginAnew_91 : decode bRM_beginAnew 91 = .ok (.getfield 64, 3) := by decide +kernel
theorem dRM_beginAnew_94 : decode bRM_beginAnew 94 = .ok (.invokevirtual 297, 3) := by decide +kernel
theorem dRM_beginAnew_97 : decode bRM_beginAnew 97 = .ok (.pop, 1) := by decide +kernel
theorem dRM_beginAnew_98 : decode bRM_beginAnew 98 = .ok (.aload_n 0, 1) := by decide +kernel
theorem dRM_beginAnew_99 : decode bRM_beginAnew 99 = .ok (.getfield 57, 3) := by decide +kernel
theorem dRM_beginAnew_102 : decode bRM_beginAnew 102 = .ok (.invokevirtual 357, 3) := by decide +kernel
theorem dRM_beginAnew_105 : decode bRM_beginAnew 105 = .ok (.aload_n 0, 1) := by decide +kernel
theorem dRM_beginAnew_106 : decode bRM_beginAnew 106 = .ok (.iconst 0, 1) := by decide +kernel
theorem dRM_beginAnew_107 : decode bRM_beginAnew 107 = .ok (.putfield 309, 3) := by decide +kernel
theorem dRM_beginAnew_110 : decode bRM_beginAnew 110 = .ok (.return_, 1) := by decide +kernel
theorem dRM_noteStood_0 : decode bRM_noteStood 0 = .ok (.aload_n 0, 1) := by decide +kernel
theorem dRM_noteStood_1 : decode bRM_noteStood 1 = .ok (.getfield 309, 3) := by decide +kernel
theorem dRM_noteStood_4 : decode bRM_noteStood 4 = .ok (.aload_n 0, 1) := by decide +kernel
theorem dRM_noteStood_5 : decode bRM_noteStood 5 = .ok (.getfield 78, 3) := by decide +kernel
theorem dRM_noteStood_8 : decode bRM_noteStood 8 = .ok (.arraylength, 1) := by decide +kernel
theorem dRM_noteStood_9 : decode bRM_noteStood 9 = .ok (.if_icmp .ge 23, 3) := by decide +kernel
theorem dRM_noteStood_12 : decode bRM_noteStood 12 = .ok (.aload_n 0, 1) := by decide +kernel
theorem dRM_noteStood_13 : decode bRM_noteStood 13 = .ok (.getfield 78, 3) := by decide +kernel
theorem dRM_noteStood_16 : decode bRM_noteStood 16 = .ok (.aload_n 0, 1) := by decide +kernel
theorem dRM_noteStood_17 : decode bRM_noteStood 17 = .ok (.getfield 309, 3) := by decide +kernel
theorem dRM_noteStood_20 : decode bRM_noteStood 20 = .ok (.iload_n 1, 1) := by decide +kernel
theorem dRM_noteStood_21 : decode bRM_noteStood 21 = .ok (.iastore, 1) := by decide +kernel
theorem dRM_noteStood_22 : decode bRM_noteStood 22 = .ok (.aload_n 0, 1) := by decide +kernel
theorem dRM_noteStood_23 : decode bRM_noteStood 23 = .ok (.dup, 1) := by decide +kernel
theorem dRM_noteStood_24 : decode bRM_noteStood 24 = .ok (.getfield 309, 3) := by decide +kernel
theorem dRM_noteStood_27 : decode bRM_noteStood 27 = .ok (.iconst 1, 1) := by decide +kernel
theorem dRM_noteStood_28 : decode bRM_noteStood 28 = .ok (.iadd, 1) := by decide +kernel
theorem dRM_noteStood_29 : decode bRM_noteStood 29 = .ok (.putfield 309, 3) := by decide +kernel
theorem dRM_noteStood_32 : decode bRM_noteStood 32 = .ok (.return_, 1) := by decide +kernel
theorem dRM_findFits_0 : decode bRM_findFits 0 = .ok (.aload_n 0, 1) := by decide +kernel
theorem dRM_findFits_1 : decode bRM_findFits 1 = .ok (.getfield 43, 3) := by decide +kernel
theorem dRM_findFits_4 : decode bRM_findFits 4 = .ok (.aload_n 0, 1) := by decide +kernel
theorem dRM_findFits_5 : decode bRM_findFits 5 = .ok (.getfield 19, 3) := by decide +kernel
theorem dRM_findFits_8 : decode bRM_findFits 8 = .ok (.aload_n 0, 1) := by decide +kernel
theorem dRM_findFits_9 : decode bRM_findFits 9 = .ok (.getfield 37, 3) := by decide +kernel
theorem dRM_findFits_12 : decode bRM_findFits 12 = .ok (.invokevirtual 359, 3) := by decide +kernel
theorem dRM_findFits_15 : decode bRM_findFits 15 = .ok (.aload_n 0, 1) := by decide +kernel
theorem dRM_findFits_16 : decode bRM_findFits 16 = .ok (.getfield 50, 3) := by decide +kernel
theorem dRM_findFits_19 : decode bRM_findFits 19 = .ok (.aload_n 0, 1) := by decide +kernel
theorem dRM_findFits_20 : decode bRM_findFits 20 = .ok (.getfield 43, 3) := by decide +kernel
theorem dRM_findFits_23 : decode bRM_findFits 23 = .ok (.invokevirtual 363, 3) := by decide +kernel
theorem dRM_findFits_26 : decode bRM_findFits 26 = .ok (.ireturn, 1) := by decide +kernel
theorem dRM_leadMarks_0 : decode bRM_leadMarks 0 = .ok (.aload_n 0, 1) := by decide +kernel
theorem dRM_leadMarks_1 : decode bRM_leadMarks 1 = .ok (.getfield 71, 3) := by decide +kernel
theorem dRM_leadMarks_4 : decode bRM_leadMarks 4 = .ok (.invokevirtual 366, 3) := by decide +kernel
theorem dRM_leadMarks_7 : decode bRM_leadMarks 7 = .ok (.aload_n 0, 1) := by decide +kernel
theorem dRM_leadMarks_8 : decode bRM_leadMarks 8 = .ok (.getfield 75, 3) := by decide +kernel
theorem dRM_leadMarks_11 : decode bRM_leadMarks 11 = .ok (.getfield 157, 3) := by decide +kernel
theorem dRM_leadMarks_14 : decode bRM_leadMarks 14 = .ok (.ifCond .eq 5, 3) := by decide +kernel
theorem dRM_leadMarks_17 : decode bRM_leadMarks 17 = .ok (.iconst 0, 1) := by decide +kernel
theorem dRM_leadMarks_18 : decode bRM_leadMarks 18 = .ok (.ireturn, 1) := by decide +kernel
theorem dRM_leadMarks_19 : decode bRM_leadMarks 19 = .ok (.aload_n 0, 1) := by decide +kernel
theorem dRM_leadMarks_20 : decode bRM_leadMarks 20 = .ok (.getfield 71, 3) := by decide +kernel
theorem dRM_leadMarks_23 : decode bRM_leadMarks 23 = .ok (.aload_n 0, 1) := by decide +kernel
theorem dRM_leadMarks_24 : decode bRM_leadMarks 24 = .ok (.getfield 19, 3) := by decide +kernel
theorem dRM_leadMarks_27 : decode bRM_leadMarks 27 = .ok (.aload_n 0, 1) := by decide +kernel
theorem dRM_leadMarks_28 : decode bRM_leadMarks 28 = .ok (.getfield 75, 3) := by decide +kernel
theorem dRM_leadMarks_31 : decode bRM_leadMarks 31 = .ok (.getfield 197, 3) := by decide +kernel
theorem dRM_leadMarks_34 : decode bRM_leadMarks 34 = .ok (.invokevirtual 369, 3) := by decide +kernel
theorem dRM_leadMarks_37 : decode bRM_leadMarks 37 = .ok (.aload_n 0, 1) := by decide +kernel
theorem dRM_leadMarks_38 : decode bRM_leadMarks 38 = .ok (.getfield 71, 3) := by decide +kernel
theorem dRM_leadMarks_41 : decode bRM_leadMarks 41 = .ok (.aload_n 0, 1) := by decide +kernel
theorem dRM_leadMarks_42 : decode bRM_leadMarks 42 = .ok (.getfield 19, 3) := by decide +kernel
theorem dRM_leadMarks_45 : decode bRM_leadMarks 45 = .ok (.iload_n 1, 1) := by decide +kernel
theorem dRM_leadMarks_46 : decode bRM_leadMarks 46 = .ok (.aload_n 0, 1) := by decide +kernel
theorem dRM_leadMarks_47 : decode bRM_leadMarks 47 = .ok (.getfield 75, 3) := by decide +kernel
theorem dRM_leadMarks_50 : decode bRM_leadMarks 50 = .ok (.getfield 144, 3) := by decide +kernel
theorem dRM_leadMarks_53 : decode bRM_leadMarks 53 = .ok (.invokevirtual 372, 3) := by decide +kernel
theorem dRM_leadMarks_56 : decode bRM_leadMarks 56 = .ok (.aload_n 0, 1) := by decide +kernel
theorem dRM_leadMarks_57 : decode bRM_leadMarks 57 = .ok (.getfield 71, 3) := by decide +kernel
theorem dRM_leadMarks_60 : decode bRM_leadMarks 60 = .ok (.getfield 176, 3) := by decide +kernel
theorem dRM_leadMarks_63 : decode bRM_leadMarks 63 = .ok (.invokestatic 376, 3) := by decide +kernel
theorem dRM_leadMarks_66 : decode bRM_leadMarks 66 = .ok (.ireturn, 1) := by decide +kernel
theorem dRM_sumOf_0 : decode bRM_sumOf 0 = .ok (.iconst 0, 1) := by decide +kernel
theorem dRM_sumOf_1 : decode bRM_sumOf 1 = .ok (.istore_n 1, 1) := by decide +kernel
theorem dRM_sumOf_2 : decode bRM_sumOf 2 = .ok (.iconst 0, 1) := by decide +kernel
theorem dRM_sumOf_3 : decode bRM_sumOf 3 = .ok (.istore_n 2, 1) := by decide +kernel
theorem dRM_sumOf_4 : decode bRM_sumOf 4 = .ok (.iload_n 2, 1) := by decide +kernel
theorem dRM_sumOf_5 : decode bRM_sumOf 5 = .ok (.aload_n 0, 1) := by decide +kernel
theorem dRM_sumOf_6 : decode bRM_sumOf 6 = .ok (.arraylength, 1) := by decide +kernel
theorem dRM_sumOf_7 : decode bRM_sumOf 7 = .ok (.if_icmp .ge 15, 3) := by decide +kernel
theorem dRM_sumOf_10 : decode bRM_sumOf 10 = .ok (.iload_n 1, 1) := by decide +kernel
theorem dRM_sumOf_11 : decode bRM_sumOf 11 = .ok (.aload_n 0, 1) := by decide +kernel
theorem dRM_sumOf_12 : decode bRM_sumOf 12 = .ok (.iload_n 2, 1) := by decide +kernel
theorem dRM_sumOf_13 : decode bRM_sumOf 13 = .ok (.iaload, 1) := by decide +kernel
theorem dRM_sumOf_14 : decode bRM_sumOf 14 = .ok (.iadd, 1) := by decide +kernel
theorem dRM_sumOf_15 : decode bRM_sumOf 15 = .ok (.istore_n 1, 1) := by decide +kernel
theorem dRM_sumOf_16 : decode bRM_sumOf 16 = .ok (.iinc 2 1, 3) := by decide +kernel
theorem dRM_sumOf_19 : decode bRM_sumOf 19 = .ok (.goto (-15), 3) := by decide +kernel
theorem dRM_sumOf_22 : decode bRM_sumOf 22 = .ok (.iload_n 1, 1) := by decide +kernel
theorem dRM_sumOf_23 : decode bRM_sumOf 23 = .ok (.ireturn, 1) := by decide +kernel
theorem dRM_copyRow_0 : decode bRM_copyRow 0 = .ok (.iconst 0, 1) := by decide +kernel
theorem dRM_copyRow_1 : decode bRM_copyRow 1 = .ok (.istore_n 2, 1) := by decide +kernel
theorem dRM_copyRow_2 : decode bRM_copyRow 2 = .ok (.iload_n 2, 1) := by decide +kernel
theorem dRM_copyRow_3 : decode bRM_copyRow 3 = .ok (.aload_n 0, 1) := by decide +kernel
theorem dRM_copyRow_4 : decode bRM_copyRow 4 = .ok (.arraylength, 1) := by decide +kernel
theorem dRM_copyRow_5 : decode bRM_copyRow 5 = .ok (.if_icmp .ge 21, 3) := by decide +kernel
theorem dRM_copyRow_8 : decode bRM_copyRow 8 = .ok (.iload_n 2, 1) := by decide +kernel
theorem dRM_copyRow_9 : decode bRM_copyRow 9 = .ok (.aload_n 1, 1) := by decide +kernel
theorem dRM_copyRow_10 : decode bRM_copyRow 10 = .ok (.arraylength, 1) := by decide +kernel
theorem dRM_copyRow_11 : decode bRM_copyRow 11 = .ok (.if_icmp .ge 15, 3) := by decide +kernel
theorem dRM_copyRow_14 : decode bRM_copyRow 14 = .ok (.aload_n 1, 1) := by decide +kernel
theorem dRM_copyRow_15 : decode bRM_copyRow 15 = .ok (.iload_n 2, 1) := by decide +kernel
theorem dRM_copyRow_16 : decode bRM_copyRow 16 = .ok (.aload_n 0, 1) := by decide +kernel
theorem dRM_copyRow_17 : decode bRM_copyRow 17 = .ok (.iload_n 2, 1) := by decide +kernel
theorem dRM_copyRow_18 : decode bRM_copyRow 18 = .ok (.iaload, 1) := by decide +kernel
theorem dRM_copyRow_19 : decode bRM_copyRow 19 = .ok (.iastore, 1) := by decide +kernel
theorem dRM_copyRow_20 : decode bRM_copyRow 20 = .ok (.iinc 2 1, 3) := by decide +kernel
theorem dRM_copyRow_23 : decode bRM_copyRow 23 = .ok (.goto (-21), 3) := by decide +kernel
theorem dRM_copyRow_26 : decode bRM_copyRow 26 = .ok (.return_, 1) := by decide +kernel
theorem dRM_wipe_0 : decode bRM_wipe 0 = .ok (.iconst 0, 1) := by decide +kernel
theorem dRM_wipe_1 : decode bRM_wipe 1 = .ok (.istore_n 1, 1) := by decide +kernel
theorem dRM_wipe_2 : decode bRM_wipe 2 = .ok (.iload_n 1, 1) := by decide +kernel
theorem dRM_wipe_3 : decode bRM_wipe 3 = .ok (.aload_n 0, 1) := by decide +kernel
theorem dRM_wipe_4 : decode bRM_wipe 4 = .ok (.arraylength, 1) := by decide +kernel
theorem dRM_wipe_5 : decode bRM_wipe 5 = .ok (.if_icmp .ge 13, 3) := by decide +kernel
theorem dRM_wipe_8 : decode bRM_wipe 8 = .ok (.aload_n 0, 1) := by decide +kernel
theorem dRM_wipe_9 : decode bRM_wipe 9 = .ok (.iload_n 1, 1) := by decide +kernel
theorem dRM_wipe_10 : decode bRM_wipe 10 = .ok (.iconst 0, 1) := by decide +kernel
theorem dRM_wipe_11 : decode bRM_wipe 11 = .ok (.iastore, 1) := by decide +kernel
theorem dRM_wipe_12 : decode bRM_wipe 12 = .ok (.iinc 1 1, 3) := by decide +kernel
theorem dRM_wipe_15 : decode bRM_wipe 15 = .ok (.goto (-13), 3) := by decide +kernel
theorem dRM_wipe_18 : decode bRM_wipe 18 = .ok (.return_, 1) := by decide +kernel
