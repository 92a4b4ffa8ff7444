theorem d_pg_init_0 : decode prog_2_method_1_code 0 = .ok (.aload_n 0, 1) := by decide +kernel
theorem d_pg_init_1 : decode prog_2_method_1_code 1 = .ok (.invokespecial 3, 3) := by decide +kernel
theorem d_pg_init_4 : decode prog_2_method_1_code 4 = .ok (.aload_n 0, 1) := by decide +kernel
theorem d_pg_init_5 : decode prog_2_method_1_code 5 = .ok (.bipush 96, 2) := by decide +kernel
theorem d_pg_init_7 : decode prog_2_method_1_code 7 = .ok (.newarray .int, 2) := by decide +kernel
theorem d_pg_init_9 : decode prog_2_method_1_code 9 = .ok (.putfield 9, 3) := by decide +kernel
theorem d_pg_init_12 : decode prog_2_method_1_code 12 = .ok (.return_, 1) := by decide +kernel
theorem d_pg_firstWrong_0 : decode prog_2_method_2_code 0 = .ok (.aload_n 0, 1) := by decide +kernel
theorem d_pg_firstWrong_1 : decode prog_2_method_2_code 1 = .ok (.iconst 0, 1) := by decide +kernel
theorem d_pg_firstWrong_2 : decode prog_2_method_2_code 2 = .ok (.putfield 15, 3) := by decide +kernel
theorem d_pg_firstWrong_5 : decode prog_2_method_2_code 5 = .ok (.aload_n 0, 1) := by decide +kernel
theorem d_pg_firstWrong_6 : decode prog_2_method_2_code 6 = .ok (.iconst 0, 1) := by decide +kernel
theorem d_pg_firstWrong_7 : decode prog_2_method_2_code 7 = .ok (.putfield 19, 3) := by decide +kernel
theorem d_pg_firstWrong_10 : decode prog_2_method_2_code 10 = .ok (.iconst 0, 1) := by decide +kernel
theorem d_pg_firstWrong_11 : decode prog_2_method_2_code 11 = .ok (.istore_n 1, 1) := by decide +kernel
theorem d_pg_firstWrong_12 : decode prog_2_method_2_code 12 = .ok (.iload_n 1, 1) := by decide +kernel
theorem d_pg_firstWrong_13 : decode prog_2_method_2_code 13 = .ok (.aload_n 0, 1) := by decide +kernel
theorem d_pg_firstWrong_14 : decode prog_2_method_2_code 14 = .ok (.getfield 22, 3) := by decide +kernel
theorem d_pg_firstWrong_17 : decode prog_2_method_2_code 17 = .ok (.if_icmp .ge 68, 3) := by decide +kernel
theorem d_pg_firstWrong_20 : decode prog_2_method_2_code 20 = .ok (.aload_n 0, 1) := by decide +kernel
theorem d_pg_firstWrong_21 : decode prog_2_method_2_code 21 = .ok (.getfield 9, 3) := by decide +kernel
theorem d_pg_firstWrong_24 : decode prog_2_method_2_code 24 = .ok (.iload_n 1, 1) := by decide +kernel
theorem d_pg_firstWrong_25 : decode prog_2_method_2_code 25 = .ok (.iaload, 1) := by decide +kernel
theorem d_pg_firstWrong_26 : decode prog_2_method_2_code 26 = .ok (.bipush 44, 2) := by decide +kernel
theorem d_pg_firstWrong_28 : decode prog_2_method_2_code 28 = .ok (.if_icmp .ne 41, 3) := by decide +kernel
theorem d_pg_firstWrong_31 : decode prog_2_method_2_code 31 = .ok (.aload_n 0, 1) := by decide +kernel
theorem d_pg_firstWrong_32 : decode prog_2_method_2_code 32 = .ok (.getfield 19, 3) := by decide +kernel
theorem d_pg_firstWrong_35 : decode prog_2_method_2_code 35 = .ok (.iconst 1, 1) := by decide +kernel
theorem d_pg_firstWrong_36 : decode prog_2_method_2_code 36 = .ok (.iadd, 1) := by decide +kernel
theorem d_pg_firstWrong_37 : decode prog_2_method_2_code 37 = .ok (.iconst 4, 1) := by decide +kernel
theorem d_pg_firstWrong_38 : decode prog_2_method_2_code 38 = .ok (.if_icmp .ge 31, 3) := by decide +kernel
theorem d_pg_firstWrong_41 : decode prog_2_method_2_code 41 = .ok (.aload_n 0, 1) := by decide +kernel
theorem d_pg_firstWrong_42 : decode prog_2_method_2_code 42 = .ok (.iload_n 1, 1) := by decide +kernel
theorem d_pg_firstWrong_43 : decode prog_2_method_2_code 43 = .ok (.invokevirtual 25, 3) := by decide +kernel
theorem d_pg_firstWrong_46 : decode prog_2_method_2_code 46 = .ok (.ifCond .eq 23, 3) := by decide +kernel
theorem d_pg_firstWrong_49 : decode prog_2_method_2_code 49 = .ok (.aload_n 0, 1) := by decide +kernel
theorem d_pg_firstWrong_50 : decode prog_2_method_2_code 50 = .ok (.iload_n 1, 1) := by decide +kernel
theorem d_pg_firstWrong_51 : decode prog_2_method_2_code 51 = .ok (.iconst 1, 1) := by decide +kernel
theorem d_pg_firstWrong_52 : decode prog_2_method_2_code 52 = .ok (.iadd, 1) := by decide +kernel
theorem d_pg_firstWrong_53 : decode prog_2_method_2_code 53 = .ok (.putfield 15, 3) := by decide +kernel
theorem d_pg_firstWrong_56 : decode prog_2_method_2_code 56 = .ok (.aload_n 0, 1) := by decide +kernel
theorem d_pg_firstWrong_57 : decode prog_2_method_2_code 57 = .ok (.dup, 1) := by decide +kernel
theorem d_pg_firstWrong_58 : decode prog_2_method_2_code 58 = .ok (.getfield 19, 3) := by decide +kernel
theorem d_pg_firstWrong_61 : decode prog_2_method_2_code 61 = .ok (.iconst 1, 1) := by decide +kernel
theorem d_pg_firstWrong_62 : decode prog_2_method_2_code 62 = .ok (.iadd, 1) := by decide +kernel
theorem d_pg_firstWrong_63 : decode prog_2_method_2_code 63 = .ok (.putfield 19, 3) := by decide +kernel
theorem d_pg_firstWrong_66 : decode prog_2_method_2_code 66 = .ok (.goto 13, 3) := by decide +kernel
theorem d_pg_firstWrong_69 : decode prog_2_method_2_code 69 = .ok (.aload_n 0, 1) := by decide +kernel
theorem d_pg_firstWrong_70 : decode prog_2_method_2_code 70 = .ok (.iload_n 1, 1) := by decide +kernel
theorem d_pg_firstWrong_71 : decode prog_2_method_2_code 71 = .ok (.invokevirtual 29, 3) := by decide +kernel
theorem d_pg_firstWrong_74 : decode prog_2_method_2_code 74 = .ok (.ifCond .ne 5, 3) := by decide +kernel
theorem d_pg_firstWrong_77 : decode prog_2_method_2_code 77 = .ok (.iload_n 1, 1) := by decide +kernel
theorem d_pg_firstWrong_78 : decode prog_2_method_2_code 78 = .ok (.ireturn, 1) := by decide +kernel
theorem d_pg_firstWrong_79 : decode prog_2_method_2_code 79 = .ok (.iinc 1 1, 3) := by decide +kernel
theorem d_pg_firstWrong_82 : decode prog_2_method_2_code 82 = .ok (.goto (-70), 3) := by decide +kernel
theorem d_pg_firstWrong_85 : decode prog_2_method_2_code 85 = .ok (.aload_n 0, 1) := by decide +kernel
theorem d_pg_firstWrong_86 : decode prog_2_method_2_code 86 = .ok (.getfield 22, 3) := by decide +kernel
theorem d_pg_firstWrong_89 : decode prog_2_method_2_code 89 = .ok (.ireturn, 1) := by decide +kernel
theorem d_pg_isWhole_0 : decode prog_2_method_3_code 0 = .ok (.aload_n 0, 1) := by decide +kernel
theorem d_pg_isWhole_1 : decode prog_2_method_3_code 1 = .ok (.invokevirtual 32, 3) := by decide +kernel
theorem d_pg_isWhole_4 : decode prog_2_method_3_code 4 = .ok (.aload_n 0, 1) := by decide +kernel
theorem d_pg_isWhole_5 : decode prog_2_method_3_code 5 = .ok (.getfield 22, 3) := by decide +kernel
theorem d_pg_isWhole_8 : decode prog_2_method_3_code 8 = .ok (.if_icmp .ne 18, 3) := by decide +kernel
theorem d_pg_isWhole_11 : decode prog_2_method_3_code 11 = .ok (.aload_n 0, 1) := by decide +kernel
theorem d_pg_isWhole_12 : decode prog_2_method_3_code 12 = .ok (.aload_n 0, 1) := by decide +kernel
theorem d_pg_isWhole_13 : decode prog_2_method_3_code 13 = .ok (.getfield 22, 3) := by decide +kernel
theorem d_pg_isWhole_16 : decode prog_2_method_3_code 16 = .ok (.invokevirtual 25, 3) := by decide +kernel
theorem d_pg_isWhole_19 : decode prog_2_method_3_code 19 = .ok (.ifCond .eq 7, 3) := by decide +kernel
theorem d_pg_isWhole_22 : decode prog_2_method_3_code 22 = .ok (.iconst 1, 1) := by decide +kernel
theorem d_pg_isWhole_23 : decode prog_2_method_3_code 23 = .ok (.goto 4, 3) := by decide +kernel
theorem d_pg_isWhole_26 : decode prog_2_method_3_code 26 = .ok (.iconst 0, 1) := by decide +kernel
theorem d_pg_isWhole_27 : decode prog_2_method_3_code 27 = .ok (.ireturn, 1) := by decide +kernel
theorem d_pg_canEndAhead_0 : decode prog_2_method_4_code 0 = .ok (.iload_n 1, 1) := by decide +kernel
theorem d_pg_canEndAhead_1 : decode prog_2_method_4_code 1 = .ok (.aload_n 0, 1) := by decide +kernel
theorem d_pg_canEndAhead_2 : decode prog_2_method_4_code 2 = .ok (.getfield 15, 3) := by decide +kernel
theorem d_pg_canEndAhead_5 : decode prog_2_method_4_code 5 = .ok (.isub, 1) := by decide +kernel
theorem d_pg_canEndAhead_6 : decode prog_2_method_4_code 6 = .ok (.istore_n 2, 1) := by decide +kernel
theorem d_pg_canEndAhead_7 : decode prog_2_method_4_code 7 = .ok (.iload_n 2, 1) := by decide +kernel
theorem d_pg_canEndAhead_8 : decode prog_2_method_4_code 8 = .ok (.bipush 7, 2) := by decide +kernel
theorem d_pg_canEndAhead_10 : decode prog_2_method_4_code 10 = .ok (.if_icmp .ge 5, 3) := by decide +kernel
theorem d_pg_canEndAhead_13 : decode prog_2_method_4_code 13 = .ok (.iconst 0, 1) := by decide +kernel
theorem d_pg_canEndAhead_14 : decode prog_2_method_4_code 14 = .ok (.ireturn, 1) := by decide +kernel
theorem d_pg_canEndAhead_15 : decode prog_2_method_4_code 15 = .ok (.aload_n 0, 1) := by decide +kernel
theorem d_pg_canEndAhead_16 : decode prog_2_method_4_code 16 = .ok (.getfield 9, 3) := by decide +kernel
theorem d_pg_canEndAhead_19 : decode prog_2_method_4_code 19 = .ok (.aload_n 0, 1) := by decide +kernel
theorem d_pg_canEndAhead_20 : decode prog_2_method_4_code 20 = .ok (.getfield 15, 3) := by decide +kernel
theorem d_pg_canEndAhead_23 : decode prog_2_method_4_code 23 = .ok (.iaload, 1) := by decide +kernel
theorem d_pg_canEndAhead_24 : decode prog_2_method_4_code 24 = .ok (.bipush 102, 2) := by decide +kernel
theorem d_pg_canEndAhead_26 : decode prog_2_method_4_code 26 = .ok (.if_icmp .ne 15, 3) := by decide +kernel
theorem d_pg_canEndAhead_29 : decode prog_2_method_4_code 29 = .ok (.iload_n 2, 1) := by decide +kernel
theorem d_pg_canEndAhead_30 : decode prog_2_method_4_code 30 = .ok (.bipush 7, 2) := by decide +kernel
theorem d_pg_canEndAhead_32 : decode prog_2_method_4_code 32 = .ok (.if_icmp .ne 7, 3) := by decide +kernel
theorem d_pg_canEndAhead_35 : decode prog_2_method_4_code 35 = .ok (.iconst 1, 1) := by decide +kernel
theorem d_pg_canEndAhead_36 : decode prog_2_method_4_code 36 = .ok (.goto 4, 3) := by decide +kernel
theorem d_pg_canEndAhead_39 : decode prog_2_method_4_code 39 = .ok (.iconst 0, 1) := by decide +kernel
theorem d_pg_canEndAhead_40 : decode prog_2_method_4_code 40 = .ok (.ireturn, 1) := by decide +kernel
theorem d_pg_canEndAhead_41 : decode prog_2_method_4_code 41 = .ok (.iload_n 2, 1) := by decide +kernel
theorem d_pg_canEndAhead_42 : decode prog_2_method_4_code 42 = .ok (.iconst 5, 1) := by decide +kernel
theorem d_pg_canEndAhead_43 : decode prog_2_method_4_code 43 = .ok (.isub, 1) := by decide +kernel
theorem d_pg_canEndAhead_44 : decode prog_2_method_4_code 44 = .ok (.bipush 6, 2) := by decide +kernel
theorem d_pg_canEndAhead_46 : decode prog_2_method_4_code 46 = .ok (.irem, 1) := by decide +kernel
theorem d_pg_canEndAhead_47 : decode prog_2_method_4_code 47 = .ok (.ifCond .ne 7, 3) := by decide +kernel
theorem d_pg_canEndAhead_50 : decode prog_2_method_4_code 50 = .ok (.iconst 1, 1) := by decide +kernel
theorem d_pg_canEndAhead_51 : decode prog_2_method_4_code 51 = .ok (.goto 4, 3) := by decide +kernel
theorem d_pg_canEndAhead_54 : decode prog_2_method_4_code 54 = .ok (.iconst 0, 1) := by decide +kernel
theorem d_pg_canEndAhead_55 : decode prog_2_method_4_code 55 = .ok (.ireturn, 1) := by decide +kernel
theorem d_pg_fits_0 : decode prog_2_method_5_code 0 = .ok (.aload_n 0, 1) := by decide +kernel
theorem d_pg_fits_1 : decode prog_2_method_5_code 1 = .ok (.getfield 9, 3) := by decide +kernel
theorem d_pg_fits_4 : decode prog_2_method_5_code 4 = .ok (.iload_n 1, 1) := by decide +kernel
theorem d_pg_fits_5 : decode prog_2_method_5_code 5 = .ok (.iaload, 1) := by decide +kernel
theorem d_pg_fits_6 : decode prog_2_method_5_code 6 = .ok (.istore_n 2, 1) := by decide +kernel
theorem d_pg_fits_7 : decode prog_2_method_5_code 7 = .ok (.iload_n 1, 1) := by decide +kernel
theorem d_pg_fits_8 : decode prog_2_method_5_code 8 = .ok (.aload_n 0, 1) := by decide +kernel
theorem d_pg_fits_9 : decode prog_2_method_5_code 9 = .ok (.getfield 15, 3) := by decide +kernel
theorem d_pg_fits_12 : decode prog_2_method_5_code 12 = .ok (.if_icmp .ne 37, 3) := by decide +kernel
theorem d_pg_fits_15 : decode prog_2_method_5_code 15 = .ok (.iload_n 2, 1) := by decide +kernel
theorem d_pg_fits_16 : decode prog_2_method_5_code 16 = .ok (.bipush 102, 2) := by decide +kernel
theorem d_pg_fits_18 : decode prog_2_method_5_code 18 = .ok (.if_icmp .ne 18, 3) := by decide +kernel
theorem d_pg_fits_21 : decode prog_2_method_5_code 21 = .ok (.aload_n 0, 1) := by decide +kernel
theorem d_pg_fits_22 : decode prog_2_method_5_code 22 = .ok (.getfield 19, 3) := by decide +kernel
theorem d_pg_fits_25 : decode prog_2_method_5_code 25 = .ok (.ifCond .le 7, 3) := by decide +kernel
theorem d_pg_fits_28 : decode prog_2_method_5_code 28 = .ok (.iconst 1, 1) := by decide +kernel
theorem d_pg_fits_29 : decode prog_2_method_5_code 29 = .ok (.goto 19, 3) := by decide +kernel
theorem d_pg_fits_32 : decode prog_2_method_5_code 32 = .ok (.iconst 0, 1) := by decide +kernel
theorem d_pg_fits_33 : decode prog_2_method_5_code 33 = .ok (.goto 15, 3) := by decide +kernel
theorem d_pg_fits_36 : decode prog_2_method_5_code 36 = .ok (.iload_n 2, 1) := by decide +kernel
theorem d_pg_fits_37 : decode prog_2_method_5_code 37 = .ok (.invokestatic 36, 3) := by decide +kernel
theorem d_pg_fits_40 : decode prog_2_method_5_code 40 = .ok (.ifCond .lt 7, 3) := by decide +kernel
theorem d_pg_fits_43 : decode prog_2_method_5_code 43 = .ok (.iconst 1, 1) := by decide +kernel
theorem d_pg_fits_44 : decode prog_2_method_5_code 44 = .ok (.goto 4, 3) := by decide +kernel
theorem d_pg_fits_47 : decode prog_2_method_5_code 47 = .ok (.iconst 0, 1) := by decide +kernel
theorem d_pg_fits_48 : decode prog_2_method_5_code 48 = .ok (.ireturn, 1) := by decide +kernel
theorem d_pg_fits_49 : decode prog_2_method_5_code 49 = .ok (.aload_n 0, 1) := by decide +kernel
theorem d_pg_fits_50 : decode prog_2_method_5_code 50 = .ok (.getfield 9, 3) := by decide +kernel
theorem d_pg_fits_53 : decode prog_2_method_5_code 53 = .ok (.aload_n 0, 1) := by decide +kernel
theorem d_pg_fits_54 : decode prog_2_method_5_code 54 = .ok (.getfield 15, 3) := by decide +kernel
theorem d_pg_fits_57 : decode prog_2_method_5_code 57 = .ok (.iaload, 1) := by decide +kernel
theorem d_pg_fits_58 : decode prog_2_method_5_code 58 = .ok (.bipush 102, 2) := by decide +kernel
theorem d_pg_fits_60 : decode prog_2_method_5_code 60 = .ok (.if_icmp .ne 7, 3) := by decide +kernel
theorem d_pg_fits_63 : decode prog_2_method_5_code 63 = .ok (.iconst 1, 1) := by decide +kernel
theorem d_pg_fits_64 : decode prog_2_method_5_code 64 = .ok (.goto 4, 3) := by decide +kernel
theorem d_pg_fits_67 : decode prog_2_method_5_code 67 = .ok (.iconst 0, 1) := by decide +kernel
theorem d_pg_fits_68 : decode prog_2_method_5_code 68 = .ok (.istore_n 3, 1) := by decide +kernel
theorem d_pg_fits_69 : decode prog_2_method_5_code 69 = .ok (.iload_n 1, 1) := by decide +kernel
theorem d_pg_fits_70 : decode prog_2_method_5_code 70 = .ok (.aload_n 0, 1) := by decide +kernel
theorem d_pg_fits_71 : decode prog_2_method_5_code 71 = .ok (.getfield 15, 3) := by decide +kernel
theorem d_pg_fits_74 : decode prog_2_method_5_code 74 = .ok (.isub, 1) := by decide +kernel
theorem d_pg_fits_75 : decode prog_2_method_5_code 75 = .ok (.iconst 1, 1) := by decide +kernel
theorem d_pg_fits_76 : decode prog_2_method_5_code 76 = .ok (.isub, 1) := by decide +kernel
theorem d_pg_fits_77 : decode prog_2_method_5_code 77 = .ok (.istore 4, 2) := by decide +kernel
theorem d_pg_fits_79 : decode prog_2_method_5_code 79 = .ok (.iload 4, 2) := by decide +kernel
theorem d_pg_fits_81 : decode prog_2_method_5_code 81 = .ok (.iconst 1, 1) := by decide +kernel
theorem d_pg_fits_82 : decode prog_2_method_5_code 82 = .ok (.iadd, 1) := by decide +kernel
theorem d_pg_fits_83 : decode prog_2_method_5_code 83 = .ok (.iload_n 3, 1) := by decide +kernel
theorem d_pg_fits_84 : decode prog_2_method_5_code 84 = .ok (.ifCond .eq 8, 3) := by decide +kernel
theorem d_pg_fits_87 : decode prog_2_method_5_code 87 = .ok (.bipush 7, 2) := by decide +kernel
theorem d_pg_fits_89 : decode prog_2_method_5_code 89 = .ok (.goto 5, 3) := by decide +kernel
theorem d_pg_fits_92 : decode prog_2_method_5_code 92 = .ok (.bipush 23, 2) := by decide +kernel
theorem d_pg_fits_94 : decode prog_2_method_5_code 94 = .ok (.if_icmp .ge 14, 3) := by decide +kernel
theorem d_pg_fits_97 : decode prog_2_method_5_code 97 = .ok (.iload_n 2, 1) := by decide +kernel
theorem d_pg_fits_98 : decode prog_2_method_5_code 98 = .ok (.bipush 48, 2) := by decide +kernel
theorem d_pg_fits_100 : decode prog_2_method_5_code 100 = .ok (.bipush 57, 2) := by decide +kernel
theorem d_pg_fits_102 : decode prog_2_method_5_code 102 = .ok (.invokestatic 40, 3) := by decide +kernel
theorem d_pg_fits_105 : decode prog_2_method_5_code 105 = .ok (.ifCond .ne 5, 3) := by decide +kernel
theorem d_pg_fits_108 : decode prog_2_method_5_code 108 = .ok (.iconst 0, 1) := by decide +kernel
theorem d_pg_fits_109 : decode prog_2_method_5_code 109 = .ok (.ireturn, 1) := by decide +kernel
theorem d_pg_fits_110 : decode prog_2_method_5_code 110 = .ok (.iload_n 3, 1) := by decide +kernel
theorem d_pg_fits_111 : decode prog_2_method_5_code 111 = .ok (.ifCond .ne 9, 3) := by decide +kernel
theorem d_pg_fits_114 : decode prog_2_method_5_code 114 = .ok (.iload 4, 2) := by decide +kernel
theorem d_pg_fits_116 : decode prog_2_method_5_code 116 = .ok (.iconst 4, 1) := by decide +kernel
theorem d_pg_fits_117 : decode prog_2_method_5_code 117 = .ok (.if_icmp .ge 9, 3) := by decide +kernel
theorem d_pg_fits_120 : decode prog_2_method_5_code 120 = .ok (.sipush (-10001), 3) := by decide +kernel
theorem d_pg_fits_123 : decode prog_2_method_5_code 123 = .ok (.goto 11, 3) := by decide +kernel
theorem d_pg_fits_126 : decode prog_2_method_5_code 126 = .ok (.iload 4, 2) := by decide +kernel
theorem d_pg_fits_128 : decode prog_2_method_5_code 128 = .ok (.iconst 4, 1) := by decide +kernel
theorem d_pg_fits_129 : decode prog_2_method_5_code 129 = .ok (.isub, 1) := by decide +kernel
theorem d_pg_fits_130 : decode prog_2_method_5_code 130 = .ok (.iconst 2, 1) := by decide +kernel
theorem d_pg_fits_131 : decode prog_2_method_5_code 131 = .ok (.idiv, 1) := by decide +kernel
theorem d_pg_fits_132 : decode prog_2_method_5_code 132 = .ok (.iconst 3, 1) := by decide +kernel
theorem d_pg_fits_133 : decode prog_2_method_5_code 133 = .ok (.irem, 1) := by decide +kernel
theorem d_pg_fits_134 : decode prog_2_method_5_code 134 = .ok (.istore 5, 2) := by decide +kernel
theorem d_pg_fits_136 : decode prog_2_method_5_code 136 = .ok (.iload 5, 2) := by decide +kernel
theorem d_pg_fits_138 : decode prog_2_method_5_code 138 = .ok (.ifCond .ne 7, 3) := by decide +kernel
theorem d_pg_fits_141 : decode prog_2_method_5_code 141 = .ok (.iconst 1, 1) := by decide +kernel
theorem d_pg_fits_142 : decode prog_2_method_5_code 142 = .ok (.goto 4, 3) := by decide +kernel
theorem d_pg_fits_145 : decode prog_2_method_5_code 145 = .ok (.iconst 0, 1) := by decide +kernel
theorem d_pg_fits_146 : decode prog_2_method_5_code 146 = .ok (.istore 6, 2) := by decide +kernel
theorem d_pg_fits_148 : decode prog_2_method_5_code 148 = .ok (.iload 5, 2) := by decide +kernel
theorem d_pg_fits_150 : decode prog_2_method_5_code 150 = .ok (.iconst 2, 1) := by decide +kernel
theorem d_pg_fits_151 : decode prog_2_method_5_code 151 = .ok (.if_icmp .ne 8, 3) := by decide +kernel
theorem d_pg_fits_154 : decode prog_2_method_5_code 154 = .ok (.bipush 63, 2) := by decide +kernel
theorem d_pg_fits_156 : decode prog_2_method_5_code 156 = .ok (.goto 5, 3) := by decide +kernel
theorem d_pg_fits_159 : decode prog_2_method_5_code 159 = .ok (.bipush 99, 2) := by decide +kernel
theorem d_pg_fits_161 : decode prog_2_method_5_code 161 = .ok (.istore 7, 2) := by decide +kernel
theorem d_pg_fits_163 : decode prog_2_method_5_code 163 = .ok (.iload_n 2, 1) := by decide +kernel
theorem d_pg_fits_164 : decode prog_2_method_5_code 164 = .ok (.bipush 48, 2) := by decide +kernel
theorem d_pg_fits_166 : decode prog_2_method_5_code 166 = .ok (.isub, 1) := by decide +kernel
theorem d_pg_fits_167 : decode prog_2_method_5_code 167 = .ok (.istore 8, 2) := by decide +kernel
theorem d_pg_fits_169 : decode prog_2_method_5_code 169 = .ok (.iload 4, 2) := by decide +kernel
theorem d_pg_fits_171 : decode prog_2_method_5_code 171 = .ok (.iconst 2, 1) := by decide +kernel
theorem d_pg_fits_172 : decode prog_2_method_5_code 172 = .ok (.irem, 1) := by decide +kernel
theorem d_pg_fits_173 : decode prog_2_method_5_code 173 = .ok (.ifCond .ne 19, 3) := by decide +kernel
theorem d_pg_fits_176 : decode prog_2_method_5_code 176 = .ok (.bipush 10, 2) := by decide +kernel
theorem d_pg_fits_178 : decode prog_2_method_5_code 178 = .ok (.iload 8, 2) := by decide +kernel
theorem d_pg_fits_180 : decode prog_2_method_5_code 180 = .ok (.imul, 1) := by decide +kernel
theorem d_pg_fits_181 : decode prog_2_method_5_code 181 = .ok (.iload 7, 2) := by decide +kernel
theorem d_pg_fits_183 : decode prog_2_method_5_code 183 = .ok (.if_icmp .gt 7, 3) := by decide +kernel
theorem d_pg_fits_186 : decode prog_2_method_5_code 186 = .ok (.iconst 1, 1) := by decide +kernel
theorem d_pg_fits_187 : decode prog_2_method_5_code 187 = .ok (.goto 4, 3) := by decide +kernel
theorem d_pg_fits_190 : decode prog_2_method_5_code 190 = .ok (.iconst 0, 1) := by decide +kernel
theorem d_pg_fits_191 : decode prog_2_method_5_code 191 = .ok (.ireturn, 1) := by decide +kernel
theorem d_pg_fits_192 : decode prog_2_method_5_code 192 = .ok (.bipush 10, 2) := by decide +kernel
theorem d_pg_fits_194 : decode prog_2_method_5_code 194 = .ok (.aload_n 0, 1) := by decide +kernel
theorem d_pg_fits_195 : decode prog_2_method_5_code 195 = .ok (.getfield 9, 3) := by decide +kernel
theorem d_pg_fits_198 : decode prog_2_method_5_code 198 = .ok (.iload_n 1, 1) := by decide +kernel
theorem d_pg_fits_199 : decode prog_2_method_5_code 199 = .ok (.iconst 1, 1) := by decide +kernel
theorem d_pg_fits_200 : decode prog_2_method_5_code 200 = .ok (.isub, 1) := by decide +kernel
theorem d_pg_fits_201 : decode prog_2_method_5_code 201 = .ok (.iaload, 1) := by decide +kernel
theorem d_pg_fits_202 : decode prog_2_method_5_code 202 = .ok (.bipush 48, 2) := by decide +kernel
theorem d_pg_fits_204 : decode prog_2_method_5_code 204 = .ok (.isub, 1) := by decide +kernel
theorem d_pg_fits_205 : decode prog_2_method_5_code 205 = .ok (.imul, 1) := by decide +kernel
theorem d_pg_fits_206 : decode prog_2_method_5_code 206 = .ok (.iload 8, 2) := by decide +kernel
theorem d_pg_fits_208 : decode prog_2_method_5_code 208 = .ok (.iadd, 1) := by decide +kernel
theorem d_pg_fits_209 : decode prog_2_method_5_code 209 = .ok (.iload 6, 2) := by decide +kernel
theorem d_pg_fits_211 : decode prog_2_method_5_code 211 = .ok (.iload 7, 2) := by decide +kernel
theorem d_pg_fits_213 : decode prog_2_method_5_code 213 = .ok (.invokestatic 40, 3) := by decide +kernel
theorem d_pg_fits_216 : decode prog_2_method_5_code 216 = .ok (.ireturn, 1) := by decide +kernel
theorem d_pg_kindOf_0 : decode prog_2_method_6_code 0 = .ok (.ldc 44, 2) := by decide +kernel
theorem d_pg_kindOf_2 : decode prog_2_method_6_code 2 = .ok (.iload_n 0, 1) := by decide +kernel
theorem d_pg_kindOf_3 : decode prog_2_method_6_code 3 = .ok (.i2c, 1) := by decide +kernel
theorem d_pg_kindOf_4 : decode prog_2_method_6_code 4 = .ok (.invokevirtual 46, 3) := by decide +kernel
theorem d_pg_kindOf_7 : decode prog_2_method_6_code 7 = .ok (.ireturn, 1) := by decide +kernel
theorem d_pg_readInto_0 : decode prog_2_method_7_code 0 = .ok (.aload_n 1, 1) := by decide +kernel
theorem d_pg_readInto_1 : decode prog_2_method_7_code 1 = .ok (.iconst 0, 1) := by decide +kernel
theorem d_pg_readInto_2 : decode prog_2_method_7_code 2 = .ok (.putfield 51, 3) := by decide +kernel
theorem d_pg_readInto_5 : decode prog_2_method_7_code 5 = .ok (.aload_n 1, 1) := by decide +kernel
theorem d_pg_readInto_6 : decode prog_2_method_7_code 6 = .ok (.iconst 0, 1) := by decide +kernel
theorem d_pg_readInto_7 : decode prog_2_method_7_code 7 = .ok (.putfield 54, 3) := by decide +kernel
theorem d_pg_readInto_10 : decode prog_2_method_7_code 10 = .ok (.iconst 0, 1) := by decide +kernel
theorem d_pg_readInto_11 : decode prog_2_method_7_code 11 = .ok (.istore_n 2, 1) := by decide +kernel
theorem d_pg_readInto_12 : decode prog_2_method_7_code 12 = .ok (.iload_n 2, 1) := by decide +kernel
theorem d_pg_readInto_13 : decode prog_2_method_7_code 13 = .ok (.aload_n 0, 1) := by decide +kernel
theorem d_pg_readInto_14 : decode prog_2_method_7_code 14 = .ok (.getfield 22, 3) := by decide +kernel
theorem d_pg_readInto_17 : decode prog_2_method_7_code 17 = .ok (.if_icmp .ge 41, 3) := by decide +kernel
theorem d_pg_readInto_20 : decode prog_2_method_7_code 20 = .ok (.aload_n 1, 1) := by decide +kernel
theorem d_pg_readInto_21 : decode prog_2_method_7_code 21 = .ok (.getfield 51, 3) := by decide +kernel
theorem d_pg_readInto_24 : decode prog_2_method_7_code 24 = .ok (.iconst 4, 1) := by decide +kernel
theorem d_pg_readInto_25 : decode prog_2_method_7_code 25 = .ok (.if_icmp .ge 33, 3) := by decide +kernel
theorem d_pg_readInto_28 : decode prog_2_method_7_code 28 = .ok (.aload_n 0, 1) := by decide +kernel
theorem d_pg_readInto_29 : decode prog_2_method_7_code 29 = .ok (.iload_n 2, 1) := by decide +kernel
theorem d_pg_readInto_30 : decode prog_2_method_7_code 30 = .ok (.aload_n 1, 1) := by decide +kernel
theorem d_pg_readInto_31 : decode prog_2_method_7_code 31 = .ok (.getfield 57, 3) := by decide +kernel
theorem d_pg_readInto_34 : decode prog_2_method_7_code 34 = .ok (.aload_n 1, 1) := by decide +kernel
theorem d_pg_readInto_35 : decode prog_2_method_7_code 35 = .ok (.getfield 51, 3) := by decide +kernel
theorem d_pg_readInto_38 : decode prog_2_method_7_code 38 = .ok (.aaload, 1) := by decide +kernel
theorem d_pg_readInto_39 : decode prog_2_method_7_code 39 = .ok (.invokevirtual 61, 3) := by decide +kernel
theorem d_pg_readInto_42 : decode prog_2_method_7_code 42 = .ok (.iconst 1, 1) := by decide +kernel
theorem d_pg_readInto_43 : decode prog_2_method_7_code 43 = .ok (.iadd, 1) := by decide +kernel
theorem d_pg_readInto_44 : decode prog_2_method_7_code 44 = .ok (.istore_n 2, 1) := by decide +kernel
theorem d_pg_readInto_45 : decode prog_2_method_7_code 45 = .ok (.aload_n 1, 1) := by decide +kernel
theorem d_pg_readInto_46 : decode prog_2_method_7_code 46 = .ok (.dup, 1) := by decide +kernel
theorem d_pg_readInto_47 : decode prog_2_method_7_code 47 = .ok (.getfield 51, 3) := by decide +kernel
theorem d_pg_readInto_50 : decode prog_2_method_7_code 50 = .ok (.iconst 1, 1) := by decide +kernel
theorem d_pg_readInto_51 : decode prog_2_method_7_code 51 = .ok (.iadd, 1) := by decide +kernel
theorem d_pg_readInto_52 : decode prog_2_method_7_code 52 = .ok (.putfield 51, 3) := by decide +kernel
theorem d_pg_readInto_55 : decode prog_2_method_7_code 55 = .ok (.goto (-43), 3) := by decide +kernel
theorem d_pg_readInto_58 : decode prog_2_method_7_code 58 = .ok (.return_, 1) := by decide +kernel
theorem d_pg_readPort_0 : decode prog_2_method_8_code 0 = .ok (.aload_n 0, 1) := by decide +kernel
theorem d_pg_readPort_1 : decode prog_2_method_8_code 1 = .ok (.getfield 9, 3) := by decide +kernel
theorem d_pg_readPort_4 : decode prog_2_method_8_code 4 = .ok (.iload_n 1, 1) := by decide +kernel
theorem d_pg_readPort_5 : decode prog_2_method_8_code 5 = .ok (.iaload, 1) := by decide +kernel
theorem d_pg_readPort_6 : decode prog_2_method_8_code 6 = .ok (.invokestatic 36, 3) := by decide +kernel
theorem d_pg_readPort_9 : decode prog_2_method_8_code 9 = .ok (.istore_n 3, 1) := by decide +kernel
theorem d_pg_readPort_10 : decode prog_2_method_8_code 10 = .ok (.iload_n 1, 1) := by decide +kernel
theorem d_pg_readPort_11 : decode prog_2_method_8_code 11 = .ok (.iconst 5, 1) := by decide +kernel
theorem d_pg_readPort_12 : decode prog_2_method_8_code 12 = .ok (.iadd, 1) := by decide +kernel
theorem d_pg_readPort_13 : decode prog_2_method_8_code 13 = .ok (.istore 4, 2) := by decide +kernel
theorem d_pg_readPort_15 : decode prog_2_method_8_code 15 = .ok (.iload_n 3, 1) := by decide +kernel
theorem d_pg_readPort_16 : decode prog_2_method_8_code 16 = .ok (.iconst 3, 1) := by decide +kernel
theorem d_pg_readPort_17 : decode prog_2_method_8_code 17 = .ok (.if_icmp .ne 33, 3) := by decide +kernel
theorem d_pg_readPort_20 : decode prog_2_method_8_code 20 = .ok (.aload_n 2, 1) := by decide +kernel
theorem d_pg_readPort_21 : decode prog_2_method_8_code 21 = .ok (.iload_n 3, 1) := by decide +kernel
theorem d_pg_readPort_22 : decode prog_2_method_8_code 22 = .ok (.aload_n 0, 1) := by decide +kernel
theorem d_pg_readPort_23 : decode prog_2_method_8_code 23 = .ok (.iload_n 1, 1) := by decide +kernel
theorem d_pg_readPort_24 : decode prog_2_method_8_code 24 = .ok (.iconst 1, 1) := by decide +kernel
theorem d_pg_readPort_25 : decode prog_2_method_8_code 25 = .ok (.iadd, 1) := by decide +kernel
theorem d_pg_readPort_26 : decode prog_2_method_8_code 26 = .ok (.invokevirtual 65, 3) := by decide +kernel
theorem d_pg_readPort_29 : decode prog_2_method_8_code 29 = .ok (.aload_n 0, 1) := by decide +kernel
theorem d_pg_readPort_30 : decode prog_2_method_8_code 30 = .ok (.iload_n 1, 1) := by decide +kernel
theorem d_pg_readPort_31 : decode prog_2_method_8_code 31 = .ok (.iconst 3, 1) := by decide +kernel
theorem d_pg_readPort_32 : decode prog_2_method_8_code 32 = .ok (.iadd, 1) := by decide +kernel
theorem d_pg_readPort_33 : decode prog_2_method_8_code 33 = .ok (.invokevirtual 65, 3) := by decide +kernel
theorem d_pg_readPort_36 : decode prog_2_method_8_code 36 = .ok (.aload_n 0, 1) := by decide +kernel
theorem d_pg_readPort_37 : decode prog_2_method_8_code 37 = .ok (.iload 4, 2) := by decide +kernel
theorem d_pg_readPort_39 : decode prog_2_method_8_code 39 = .ok (.invokevirtual 65, 3) := by decide +kernel
theorem d_pg_readPort_42 : decode prog_2_method_8_code 42 = .ok (.invokevirtual 68, 3) := by decide +kernel
theorem d_pg_readPort_45 : decode prog_2_method_8_code 45 = .ok (.iload_n 1, 1) := by decide +kernel
theorem d_pg_readPort_46 : decode prog_2_method_8_code 46 = .ok (.bipush 7, 2) := by decide +kernel
theorem d_pg_readPort_48 : decode prog_2_method_8_code 48 = .ok (.iadd, 1) := by decide +kernel
theorem d_pg_readPort_49 : decode prog_2_method_8_code 49 = .ok (.ireturn, 1) := by decide +kernel
theorem d_pg_readPort_50 : decode prog_2_method_8_code 50 = .ok (.aload_n 2, 1) := by decide +kernel
theorem d_pg_readPort_51 : decode prog_2_method_8_code 51 = .ok (.iload_n 3, 1) := by decide +kernel
theorem d_pg_readPort_52 : decode prog_2_method_8_code 52 = .ok (.aload_n 0, 1) := by decide +kernel
theorem d_pg_readPort_53 : decode prog_2_method_8_code 53 = .ok (.iload_n 1, 1) := by decide +kernel
theorem d_pg_readPort_54 : decode prog_2_method_8_code 54 = .ok (.iconst 1, 1) := by decide +kernel
theorem d_pg_readPort_55 : decode prog_2_method_8_code 55 = .ok (.iadd, 1) := by decide +kernel
theorem d_pg_readPort_56 : decode prog_2_method_8_code 56 = .ok (.invokevirtual 65, 3) := by decide +kernel
theorem d_pg_readPort_59 : decode prog_2_method_8_code 59 = .ok (.aload_n 0, 1) := by decide +kernel
theorem d_pg_readPort_60 : decode prog_2_method_8_code 60 = .ok (.iload_n 1, 1) := by decide +kernel
theorem d_pg_readPort_61 : decode prog_2_method_8_code 61 = .ok (.iconst 3, 1) := by decide +kernel
theorem d_pg_readPort_62 : decode prog_2_method_8_code 62 = .ok (.iadd, 1) := by decide +kernel
theorem d_pg_readPort_63 : decode prog_2_method_8_code 63 = .ok (.invokevirtual 65, 3) := by decide +kernel
theorem d_pg_readPort_66 : decode prog_2_method_8_code 66 = .ok (.bipush 50, 2) := by decide +kernel
theorem d_pg_readPort_68 : decode prog_2_method_8_code 68 = .ok (.invokevirtual 68, 3) := by decide +kernel
theorem d_pg_readPort_71 : decode prog_2_method_8_code 71 = .ok (.iload 4, 2) := by decide +kernel
theorem d_pg_readPort_73 : decode prog_2_method_8_code 73 = .ok (.aload_n 0, 1) := by decide +kernel
theorem d_pg_readPort_74 : decode prog_2_method_8_code 74 = .ok (.getfield 22, 3) := by decide +kernel
theorem d_pg_readPort_77 : decode prog_2_method_8_code 77 = .ok (.if_icmp .ge 47, 3) := by decide +kernel
theorem d_pg_readPort_80 : decode prog_2_method_8_code 80 = .ok (.aload_n 0, 1) := by decide +kernel
theorem d_pg_readPort_81 : decode prog_2_method_8_code 81 = .ok (.getfield 9, 3) := by decide +kernel
theorem d_pg_readPort_84 : decode prog_2_method_8_code 84 = .ok (.iload 4, 2) := by decide +kernel
theorem d_pg_readPort_86 : decode prog_2_method_8_code 86 = .ok (.iaload, 1) := by decide +kernel
theorem d_pg_readPort_87 : decode prog_2_method_8_code 87 = .ok (.bipush 44, 2) := by decide +kernel
theorem d_pg_readPort_89 : decode prog_2_method_8_code 89 = .ok (.if_icmp .eq 35, 3) := by decide +kernel
theorem d_pg_readPort_92 : decode prog_2_method_8_code 92 = .ok (.aload_n 2, 1) := by decide +kernel
theorem d_pg_readPort_93 : decode prog_2_method_8_code 93 = .ok (.aload_n 0, 1) := by decide +kernel
theorem d_pg_readPort_94 : decode prog_2_method_8_code 94 = .ok (.iload 4, 2) := by decide +kernel
theorem d_pg_readPort_96 : decode prog_2_method_8_code 96 = .ok (.invokevirtual 65, 3) := by decide +kernel
theorem d_pg_readPort_99 : decode prog_2_method_8_code 99 = .ok (.aload_n 0, 1) := by decide +kernel
theorem d_pg_readPort_100 : decode prog_2_method_8_code 100 = .ok (.iload 4, 2) := by decide +kernel
theorem d_pg_readPort_102 : decode prog_2_method_8_code 102 = .ok (.iconst 2, 1) := by decide +kernel
theorem d_pg_readPort_103 : decode prog_2_method_8_code 103 = .ok (.iadd, 1) := by decide +kernel
theorem d_pg_readPort_104 : decode prog_2_method_8_code 104 = .ok (.invokevirtual 65, 3) := by decide +kernel
theorem d_pg_readPort_107 : decode prog_2_method_8_code 107 = .ok (.aload_n 0, 1) := by decide +kernel
theorem d_pg_readPort_108 : decode prog_2_method_8_code 108 = .ok (.iload 4, 2) := by decide +kernel
theorem d_pg_readPort_110 : decode prog_2_method_8_code 110 = .ok (.iconst 4, 1) := by decide +kernel
theorem d_pg_readPort_111 : decode prog_2_method_8_code 111 = .ok (.iadd, 1) := by decide +kernel
theorem d_pg_readPort_112 : decode prog_2_method_8_code 112 = .ok (.invokevirtual 65, 3) := by decide +kernel
theorem d_pg_readPort_115 : decode prog_2_method_8_code 115 = .ok (.invokevirtual 74, 3) := by decide +kernel
theorem d_pg_readPort_118 : decode prog_2_method_8_code 118 = .ok (.iinc 4 6, 3) := by decide +kernel
theorem d_pg_readPort_121 : decode prog_2_method_8_code 121 = .ok (.goto (-50), 3) := by decide +kernel
theorem d_pg_readPort_124 : decode prog_2_method_8_code 124 = .ok (.iload 4, 2) := by decide +kernel
theorem d_pg_readPort_126 : decode prog_2_method_8_code 126 = .ok (.ireturn, 1) := by decide +kernel
theorem d_pg_numberAt_0 : decode prog_2_method_9_code 0 = .ok (.iload_n 1, 1) := by decide +kernel
theorem d_pg_numberAt_1 : decode prog_2_method_9_code 1 = .ok (.ifCond .lt 13, 3) := by decide +kernel
theorem d_pg_numberAt_4 : decode prog_2_method_9_code 4 = .ok (.iload_n 1, 1) := by decide +kernel
theorem d_pg_numberAt_5 : decode prog_2_method_9_code 5 = .ok (.iconst 1, 1) := by decide +kernel
theorem d_pg_numberAt_6 : decode prog_2_method_9_code 6 = .ok (.iadd, 1) := by decide +kernel
theorem d_pg_numberAt_7 : decode prog_2_method_9_code 7 = .ok (.aload_n 0, 1) := by decide +kernel
theorem d_pg_numberAt_8 : decode prog_2_method_9_code 8 = .ok (.getfield 22, 3) := by decide +kernel
theorem d_pg_numberAt_11 : decode prog_2_method_9_code 11 = .ok (.if_icmp .lt 5, 3) := by decide +kernel
theorem d_pg_numberAt_14 : decode prog_2_method_9_code 14 = .ok (.iconst 0, 1) := by decide +kernel
theorem d_pg_numberAt_15 : decode prog_2_method_9_code 15 = .ok (.ireturn, 1) := by decide +kernel
theorem d_pg_numberAt_16 : decode prog_2_method_9_code 16 = .ok (.bipush 10, 2) := by decide +kernel
theorem d_pg_numberAt_18 : decode prog_2_method_9_code 18 = .ok (.aload_n 0, 1) := by decide +kernel
theorem d_pg_numberAt_19 : decode prog_2_method_9_code 19 = .ok (.getfield 9, 3) := by decide +kernel
theorem d_pg_numberAt_22 : decode prog_2_method_9_code 22 = .ok (.iload_n 1, 1) := by decide +kernel
theorem d_pg_numberAt_23 : decode prog_2_method_9_code 23 = .ok (.iaload, 1) := by decide +kernel
theorem d_pg_numberAt_24 : decode prog_2_method_9_code 24 = .ok (.bipush 48, 2) := by decide +kernel
theorem d_pg_numberAt_26 : decode prog_2_method_9_code 26 = .ok (.isub, 1) := by decide +kernel
theorem d_pg_numberAt_27 : decode prog_2_method_9_code 27 = .ok (.imul, 1) := by decide +kernel
theorem d_pg_numberAt_28 : decode prog_2_method_9_code 28 = .ok (.aload_n 0, 1) := by decide +kernel
theorem d_pg_numberAt_29 : decode prog_2_method_9_code 29 = .ok (.getfield 9, 3) := by decide +kernel
theorem d_pg_numberAt_32 : decode prog_2_method_9_code 32 = .ok (.iload_n 1, 1) := by decide +kernel
theorem d_pg_numberAt_33 : decode prog_2_method_9_code 33 = .ok (.iconst 1, 1) := by decide +kernel
theorem d_pg_numberAt_34 : decode prog_2_method_9_code 34 = .ok (.iadd, 1) := by decide +kernel
theorem d_pg_numberAt_35 : decode prog_2_method_9_code 35 = .ok (.iaload, 1) := by decide +kernel
theorem d_pg_numberAt_36 : decode prog_2_method_9_code 36 = .ok (.iadd, 1) := by decide +kernel
theorem d_pg_numberAt_37 : decode prog_2_method_9_code 37 = .ok (.bipush 48, 2) := by decide +kernel
theorem d_pg_numberAt_39 : decode prog_2_method_9_code 39 = .ok (.isub, 1) := by decide +kernel
theorem d_pg_numberAt_40 : decode prog_2_method_9_code 40 = .ok (.ireturn, 1) := by decide +kernel
theorem d_po_init_0 : decode prog_3_method_1_code 0 = .ok (.aload_n 0, 1) := by decide +kernel
theorem d_po_init_1 : decode prog_3_method_1_code 1 = .ok (.invokespecial 3, 3) := by decide +kernel
theorem d_po_init_4 : decode prog_3_method_1_code 4 = .ok (.aload_n 0, 1) := by decide +kernel
theorem d_po_init_5 : decode prog_3_method_1_code 5 = .ok (.bipush 31, 2) := by decide +kernel
theorem d_po_init_7 : decode prog_3_method_1_code 7 = .ok (.putfield 9, 3) := by decide +kernel
theorem d_po_init_10 : decode prog_3_method_1_code 10 = .ok (.aload_n 0, 1) := by decide +kernel
theorem d_po_init_11 : decode prog_3_method_1_code 11 = .ok (.iconst 3, 1) := by decide +kernel
theorem d_po_init_12 : decode prog_3_method_1_code 12 = .ok (.anewarray 15, 3) := by decide +kernel
theorem d_po_init_15 : decode prog_3_method_1_code 15 = .ok (.putfield 17, 3) := by decide +kernel
theorem d_po_init_18 : decode prog_3_method_1_code 18 = .ok (.iconst 0, 1) := by decide +kernel
theorem d_po_init_19 : decode prog_3_method_1_code 19 = .ok (.istore_n 1, 1) := by decide +kernel
theorem d_po_init_20 : decode prog_3_method_1_code 20 = .ok (.iload_n 1, 1) := by decide +kernel
theorem d_po_init_21 : decode prog_3_method_1_code 21 = .ok (.iconst 3, 1) := by decide +kernel
theorem d_po_init_22 : decode prog_3_method_1_code 22 = .ok (.if_icmp .ge 22, 3) := by decide +kernel
theorem d_po_init_25 : decode prog_3_method_1_code 25 = .ok (.aload_n 0, 1) := by decide +kernel
theorem d_po_init_26 : decode prog_3_method_1_code 26 = .ok (.getfield 17, 3) := by decide +kernel
theorem d_po_init_29 : decode prog_3_method_1_code 29 = .ok (.iload_n 1, 1) := by decide +kernel
theorem d_po_init_30 : decode prog_3_method_1_code 30 = .ok (.new 15, 3) := by decide +kernel
theorem d_po_init_33 : decode prog_3_method_1_code 33 = .ok (.dup, 1) := by decide +kernel
theorem d_po_init_34 : decode prog_3_method_1_code 34 = .ok (.invokespecial 21, 3) := by decide +kernel
theorem d_po_init_37 : decode prog_3_method_1_code 37 = .ok (.aastore, 1) := by decide +kernel
theorem d_po_init_38 : decode prog_3_method_1_code 38 = .ok (.iinc 1 1, 3) := by decide +kernel
theorem d_po_init_41 : decode prog_3_method_1_code 41 = .ok (.goto (-21), 3) := by decide +kernel
theorem d_po_init_44 : decode prog_3_method_1_code 44 = .ok (.return_, 1) := by decide +kernel
theorem d_po_begin_0 : decode prog_3_method_2_code 0 = .ok (.aload_n 0, 1) := by decide +kernel
theorem d_po_begin_1 : decode prog_3_method_2_code 1 = .ok (.iload_n 1, 1) := by decide +kernel
theorem d_po_begin_2 : decode prog_3_method_2_code 2 = .ok (.putfield 22, 3) := by decide +kernel
theorem d_po_begin_5 : decode prog_3_method_2_code 5 = .ok (.aload_n 0, 1) := by decide +kernel
theorem d_po_begin_6 : decode prog_3_method_2_code 6 = .ok (.iload_n 2, 1) := by decide +kernel
theorem d_po_begin_7 : decode prog_3_method_2_code 7 = .ok (.putfield 25, 3) := by decide +kernel
theorem d_po_begin_10 : decode prog_3_method_2_code 10 = .ok (.aload_n 0, 1) := by decide +kernel
theorem d_po_begin_11 : decode prog_3_method_2_code 11 = .ok (.iload_n 3, 1) := by decide +kernel
theorem d_po_begin_12 : decode prog_3_method_2_code 12 = .ok (.putfield 28, 3) := by decide +kernel
theorem d_po_begin_15 : decode prog_3_method_2_code 15 = .ok (.aload_n 0, 1) := by decide +kernel
theorem d_po_begin_16 : decode prog_3_method_2_code 16 = .ok (.iload 4, 2) := by decide +kernel
theorem d_po_begin_18 : decode prog_3_method_2_code 18 = .ok (.putfield 31, 3) := by decide +kernel
theorem d_po_begin_21 : decode prog_3_method_2_code 21 = .ok (.aload_n 0, 1) := by decide +kernel
theorem d_po_begin_22 : decode prog_3_method_2_code 22 = .ok (.bipush 31, 2) := by decide +kernel
theorem d_po_begin_24 : decode prog_3_method_2_code 24 = .ok (.putfield 9, 3) := by decide +kernel
theorem d_po_begin_27 : decode prog_3_method_2_code 27 = .ok (.aload_n 0, 1) := by decide +kernel
theorem d_po_begin_28 : decode prog_3_method_2_code 28 = .ok (.iconst 0, 1) := by decide +kernel
theorem d_po_begin_29 : decode prog_3_method_2_code 29 = .ok (.putfield 34, 3) := by decide +kernel
theorem d_po_begin_32 : decode prog_3_method_2_code 32 = .ok (.return_, 1) := by decide +kernel
theorem d_po_become_0 : decode prog_3_method_3_code 0 = .ok (.aload_n 0, 1) := by decide +kernel
theorem d_po_become_1 : decode prog_3_method_3_code 1 = .ok (.aload_n 1, 1) := by decide +kernel
theorem d_po_become_2 : decode prog_3_method_3_code 2 = .ok (.getfield 22, 3) := by decide +kernel
theorem d_po_become_5 : decode prog_3_method_3_code 5 = .ok (.aload_n 1, 1) := by decide +kernel
theorem d_po_become_6 : decode prog_3_method_3_code 6 = .ok (.getfield 25, 3) := by decide +kernel
theorem d_po_become_9 : decode prog_3_method_3_code 9 = .ok (.aload_n 1, 1) := by decide +kernel
theorem d_po_become_10 : decode prog_3_method_3_code 10 = .ok (.getfield 28, 3) := by decide +kernel
theorem d_po_become_13 : decode prog_3_method_3_code 13 = .ok (.aload_n 1, 1) := by decide +kernel
theorem d_po_become_14 : decode prog_3_method_3_code 14 = .ok (.getfield 31, 3) := by decide +kernel
theorem d_po_become_17 : decode prog_3_method_3_code 17 = .ok (.invokevirtual 37, 3) := by decide +kernel
theorem d_po_become_20 : decode prog_3_method_3_code 20 = .ok (.aload_n 0, 1) := by decide +kernel
theorem d_po_become_21 : decode prog_3_method_3_code 21 = .ok (.aload_n 1, 1) := by decide +kernel
theorem d_po_become_22 : decode prog_3_method_3_code 22 = .ok (.getfield 9, 3) := by decide +kernel
theorem d_po_become_25 : decode prog_3_method_3_code 25 = .ok (.putfield 9, 3) := by decide +kernel
theorem d_po_become_28 : decode prog_3_method_3_code 28 = .ok (.iconst 0, 1) := by decide +kernel
theorem d_po_become_29 : decode prog_3_method_3_code 29 = .ok (.istore_n 2, 1) := by decide +kernel
theorem d_po_become_30 : decode prog_3_method_3_code 30 = .ok (.iload_n 2, 1) := by decide +kernel
theorem d_po_become_31 : decode prog_3_method_3_code 31 = .ok (.aload_n 1, 1) := by decide +kernel
theorem d_po_become_32 : decode prog_3_method_3_code 32 = .ok (.getfield 34, 3) := by decide +kernel
theorem d_po_become_35 : decode prog_3_method_3_code 35 = .ok (.if_icmp .ge 32, 3) := by decide +kernel
theorem d_po_become_38 : decode prog_3_method_3_code 38 = .ok (.aload_n 1, 1) := by decide +kernel
theorem d_po_become_39 : decode prog_3_method_3_code 39 = .ok (.getfield 17, 3) := by decide +kernel
theorem d_po_become_42 : decode prog_3_method_3_code 42 = .ok (.iload_n 2, 1) := by decide +kernel
theorem d_po_become_43 : decode prog_3_method_3_code 43 = .ok (.aaload, 1) := by decide +kernel
theorem d_po_become_44 : decode prog_3_method_3_code 44 = .ok (.astore_n 3, 1) := by decide +kernel
theorem d_po_become_45 : decode prog_3_method_3_code 45 = .ok (.aload_n 0, 1) := by decide +kernel
theorem d_po_become_46 : decode prog_3_method_3_code 46 = .ok (.aload_n 3, 1) := by decide +kernel
theorem d_po_become_47 : decode prog_3_method_3_code 47 = .ok (.getfield 41, 3) := by decide +kernel
theorem d_po_become_50 : decode prog_3_method_3_code 50 = .ok (.aload_n 3, 1) := by decide +kernel
theorem d_po_become_51 : decode prog_3_method_3_code 51 = .ok (.getfield 44, 3) := by decide +kernel
theorem d_po_become_54 : decode prog_3_method_3_code 54 = .ok (.aload_n 3, 1) := by decide +kernel
theorem d_po_become_55 : decode prog_3_method_3_code 55 = .ok (.getfield 47, 3) := by decide +kernel
theorem d_po_become_58 : decode prog_3_method_3_code 58 = .ok (.invokevirtual 50, 3) := by decide +kernel
theorem d_po_become_61 : decode prog_3_method_3_code 61 = .ok (.iinc 2 1, 3) := by decide +kernel
theorem d_po_become_64 : decode prog_3_method_3_code 64 = .ok (.goto (-34), 3) := by decide +kernel
theorem d_po_become_67 : decode prog_3_method_3_code 67 = .ok (.return_, 1) := by decide +kernel
theorem d_po_has_0 : decode prog_3_method_4_code 0 = .ok (.iload_n 1, 1) := by decide +kernel
theorem d_po_has_1 : decode prog_3_method_4_code 1 = .ok (.ifCond .lt 15, 3) := by decide +kernel
theorem d_po_has_4 : decode prog_3_method_4_code 4 = .ok (.iload_n 1, 1) := by decide +kernel
theorem d_po_has_5 : decode prog_3_method_4_code 5 = .ok (.aload_n 0, 1) := by decide +kernel
theorem d_po_has_6 : decode prog_3_method_4_code 6 = .ok (.getfield 34, 3) := by decide +kernel
theorem d_po_has_9 : decode prog_3_method_4_code 9 = .ok (.if_icmp .ge 7, 3) := by decide +kernel
theorem d_po_has_12 : decode prog_3_method_4_code 12 = .ok (.iconst 1, 1) := by decide +kernel
theorem d_po_has_13 : decode prog_3_method_4_code 13 = .ok (.goto 4, 3) := by decide +kernel
theorem d_po_has_16 : decode prog_3_method_4_code 16 = .ok (.iconst 0, 1) := by decide +kernel
theorem d_po_has_17 : decode prog_3_method_4_code 17 = .ok (.ireturn, 1) := by decide +kernel
theorem d_po_isA_0 : decode prog_3_method_5_code 0 = .ok (.iload_n 1, 1) := by decide +kernel
theorem d_po_isA_1 : decode prog_3_method_5_code 1 = .ok (.ifCond .eq 24, 3) := by decide +kernel
theorem d_po_isA_4 : decode prog_3_method_5_code 4 = .ok (.iload_n 1, 1) := by decide +kernel
theorem d_po_isA_5 : decode prog_3_method_5_code 5 = .ok (.aload_n 0, 1) := by decide +kernel
theorem d_po_isA_6 : decode prog_3_method_5_code 6 = .ok (.getfield 22, 3) := by decide +kernel
theorem d_po_isA_9 : decode prog_3_method_5_code 9 = .ok (.if_icmp .eq 16, 3) := by decide +kernel
theorem d_po_isA_12 : decode prog_3_method_5_code 12 = .ok (.iload_n 1, 1) := by decide +kernel
theorem d_po_isA_13 : decode prog_3_method_5_code 13 = .ok (.iconst 1, 1) := by decide +kernel
theorem d_po_isA_14 : decode prog_3_method_5_code 14 = .ok (.if_icmp .ne 15, 3) := by decide +kernel
theorem d_po_isA_17 : decode prog_3_method_5_code 17 = .ok (.aload_n 0, 1) := by decide +kernel
theorem d_po_isA_18 : decode prog_3_method_5_code 18 = .ok (.getfield 22, 3) := by decide +kernel
theorem d_po_isA_21 : decode prog_3_method_5_code 21 = .ok (.iconst 2, 1) := by decide +kernel
theorem d_po_isA_22 : decode prog_3_method_5_code 22 = .ok (.if_icmp .ne 7, 3) := by decide +kernel
theorem d_po_isA_25 : decode prog_3_method_5_code 25 = .ok (.iconst 1, 1) := by decide +kernel
theorem d_po_isA_26 : decode prog_3_method_5_code 26 = .ok (.goto 4, 3) := by decide +kernel
theorem d_po_isA_29 : decode prog_3_method_5_code 29 = .ok (.iconst 0, 1) := by decide +kernel
theorem d_po_isA_30 : decode prog_3_method_5_code 30 = .ok (.ireturn, 1) := by decide +kernel
theorem d_po_putWave_0 : decode prog_3_method_6_code 0 = .ok (.aload_n 0, 1) := by decide +kernel
theorem d_po_putWave_1 : decode prog_3_method_6_code 1 = .ok (.getfield 34, 3) := by decide +kernel
theorem d_po_putWave_4 : decode prog_3_method_6_code 4 = .ok (.iconst 3, 1) := by decide +kernel
theorem d_po_putWave_5 : decode prog_3_method_6_code 5 = .ok (.if_icmp .ge 28, 3) := by decide +kernel
theorem d_po_putWave_8 : decode prog_3_method_6_code 8 = .ok (.aload_n 0, 1) := by decide +kernel
theorem d_po_putWave_9 : decode prog_3_method_6_code 9 = .ok (.getfield 17, 3) := by decide +kernel
theorem d_po_putWave_12 : decode prog_3_method_6_code 12 = .ok (.aload_n 0, 1) := by decide +kernel
theorem d_po_putWave_13 : decode prog_3_method_6_code 13 = .ok (.getfield 34, 3) := by decide +kernel
theorem d_po_putWave_16 : decode prog_3_method_6_code 16 = .ok (.aaload, 1) := by decide +kernel
theorem d_po_putWave_17 : decode prog_3_method_6_code 17 = .ok (.iload_n 1, 1) := by decide +kernel
theorem d_po_putWave_18 : decode prog_3_method_6_code 18 = .ok (.iload_n 2, 1) := by decide +kernel
theorem d_po_putWave_19 : decode prog_3_method_6_code 19 = .ok (.iload_n 3, 1) := by decide +kernel
theorem d_po_putWave_20 : decode prog_3_method_6_code 20 = .ok (.invokevirtual 54, 3) := by decide +kernel
theorem d_po_putWave_23 : decode prog_3_method_6_code 23 = .ok (.aload_n 0, 1) := by decide +kernel
theorem d_po_putWave_24 : decode prog_3_method_6_code 24 = .ok (.dup, 1) := by decide +kernel
theorem d_po_putWave_25 : decode prog_3_method_6_code 25 = .ok (.getfield 34, 3) := by decide +kernel
theorem d_po_putWave_28 : decode prog_3_method_6_code 28 = .ok (.iconst 1, 1) := by decide +kernel
theorem d_po_putWave_29 : decode prog_3_method_6_code 29 = .ok (.iadd, 1) := by decide +kernel
theorem d_po_putWave_30 : decode prog_3_method_6_code 30 = .ok (.putfield 34, 3) := by decide +kernel
theorem d_po_putWave_33 : decode prog_3_method_6_code 33 = .ok (.return_, 1) := by decide +kernel
theorem d_po_dropWave_0 : decode prog_3_method_7_code 0 = .ok (.iload_n 1, 1) := by decide +kernel
theorem d_po_dropWave_1 : decode prog_3_method_7_code 1 = .ok (.istore_n 2, 1) := by decide +kernel
theorem d_po_dropWave_2 : decode prog_3_method_7_code 2 = .ok (.iload_n 2, 1) := by decide +kernel
theorem d_po_dropWave_3 : decode prog_3_method_7_code 3 = .ok (.iconst 1, 1) := by decide +kernel
theorem d_po_dropWave_4 : decode prog_3_method_7_code 4 = .ok (.iadd, 1) := by decide +kernel
theorem d_po_dropWave_5 : decode prog_3_method_7_code 5 = .ok (.aload_n 0, 1) := by decide +kernel
theorem d_po_dropWave_6 : decode prog_3_method_7_code 6 = .ok (.getfield 34, 3) := by decide +kernel
theorem d_po_dropWave_9 : decode prog_3_method_7_code 9 = .ok (.if_icmp .ge 39, 3) := by decide +kernel
theorem d_po_dropWave_12 : decode prog_3_method_7_code 12 = .ok (.aload_n 0, 1) := by decide +kernel
theorem d_po_dropWave_13 : decode prog_3_method_7_code 13 = .ok (.getfield 17, 3) := by decide +kernel
theorem d_po_dropWave_16 : decode prog_3_method_7_code 16 = .ok (.iload_n 2, 1) := by decide +kernel
theorem d_po_dropWave_17 : decode prog_3_method_7_code 17 = .ok (.iconst 1, 1) := by decide +kernel
theorem d_po_dropWave_18 : decode prog_3_method_7_code 18 = .ok (.iadd, 1) := by decide +kernel
theorem d_po_dropWave_19 : decode prog_3_method_7_code 19 = .ok (.aaload, 1) := by decide +kernel
theorem d_po_dropWave_20 : decode prog_3_method_7_code 20 = .ok (.astore_n 3, 1) := by decide +kernel
theorem d_po_dropWave_21 : decode prog_3_method_7_code 21 = .ok (.aload_n 0, 1) := by decide +kernel
theorem d_po_dropWave_22 : decode prog_3_method_7_code 22 = .ok (.getfield 17, 3) := by decide +kernel
theorem d_po_dropWave_25 : decode prog_3_method_7_code 25 = .ok (.iload_n 2, 1) := by decide +kernel
theorem d_po_dropWave_26 : decode prog_3_method_7_code 26 = .ok (.aaload, 1) := by decide +kernel
theorem d_po_dropWave_27 : decode prog_3_method_7_code 27 = .ok (.aload_n 3, 1) := by decide +kernel
theorem d_po_dropWave_28 : decode prog_3_method_7_code 28 = .ok (.getfield 41, 3) := by decide +kernel
theorem d_po_dropWave_31 : decode prog_3_method_7_code 31 = .ok (.aload_n 3, 1) := by decide +kernel
theorem d_po_dropWave_32 : decode prog_3_method_7_code 32 = .ok (.getfield 44, 3) := by decide +kernel
theorem d_po_dropWave_35 : decode prog_3_method_7_code 35 = .ok (.aload_n 3, 1) := by decide +kernel
theorem d_po_dropWave_36 : decode prog_3_method_7_code 36 = .ok (.getfield 47, 3) := by decide +kernel
theorem d_po_dropWave_39 : decode prog_3_method_7_code 39 = .ok (.invokevirtual 54, 3) := by decide +kernel
theorem d_po_dropWave_42 : decode prog_3_method_7_code 42 = .ok (.iinc 2 1, 3) := by decide +kernel
theorem d_po_dropWave_45 : decode prog_3_method_7_code 45 = .ok (.goto (-43), 3) := by decide +kernel
theorem d_po_dropWave_48 : decode prog_3_method_7_code 48 = .ok (.aload_n 0, 1) := by decide +kernel
theorem d_po_dropWave_49 : decode prog_3_method_7_code 49 = .ok (.dup, 1) := by decide +kernel
theorem d_po_dropWave_50 : decode prog_3_method_7_code 50 = .ok (.getfield 34, 3) := by decide +kernel
theorem d_po_dropWave_53 : decode prog_3_method_7_code 53 = .ok (.iconst 1, 1) := by decide +kernel
theorem d_po_dropWave_54 : decode prog_3_method_7_code 54 = .ok (.isub, 1) := by decide +kernel
theorem d_po_dropWave_55 : decode prog_3_method_7_code 55 = .ok (.putfield 34, 3) := by decide +kernel
theorem d_po_dropWave_58 : decode prog_3_method_7_code 58 = .ok (.return_, 1) := by decide +kernel
theorem d_po_sumAt_0 : decode prog_3_method_8_code 0 = .ok (.bipush 10, 2) := by decide +kernel
theorem d_po_sumAt_2 : decode prog_3_method_8_code 2 = .ok (.aload_n 0, 1) := by decide +kernel
theorem d_po_sumAt_3 : decode prog_3_method_8_code 3 = .ok (.getfield 25, 3) := by decide +kernel
theorem d_po_sumAt_6 : decode prog_3_method_8_code 6 = .ok (.imul, 1) := by decide +kernel
theorem d_po_sumAt_7 : decode prog_3_method_8_code 7 = .ok (.istore_n 2, 1) := by decide +kernel
theorem d_po_sumAt_8 : decode prog_3_method_8_code 8 = .ok (.iconst 0, 1) := by decide +kernel
theorem d_po_sumAt_9 : decode prog_3_method_8_code 9 = .ok (.istore_n 3, 1) := by decide +kernel
theorem d_po_sumAt_10 : decode prog_3_method_8_code 10 = .ok (.iload_n 3, 1) := by decide +kernel
theorem d_po_sumAt_11 : decode prog_3_method_8_code 11 = .ok (.aload_n 0, 1) := by decide +kernel
theorem d_po_sumAt_12 : decode prog_3_method_8_code 12 = .ok (.getfield 34, 3) := by decide +kernel
theorem d_po_sumAt_15 : decode prog_3_method_8_code 15 = .ok (.if_icmp .ge 22, 3) := by decide +kernel
theorem d_po_sumAt_18 : decode prog_3_method_8_code 18 = .ok (.iload_n 2, 1) := by decide +kernel
theorem d_po_sumAt_19 : decode prog_3_method_8_code 19 = .ok (.aload_n 0, 1) := by decide +kernel
theorem d_po_sumAt_20 : decode prog_3_method_8_code 20 = .ok (.getfield 17, 3) := by decide +kernel
theorem d_po_sumAt_23 : decode prog_3_method_8_code 23 = .ok (.iload_n 3, 1) := by decide +kernel
theorem d_po_sumAt_24 : decode prog_3_method_8_code 24 = .ok (.aaload, 1) := by decide +kernel
theorem d_po_sumAt_25 : decode prog_3_method_8_code 25 = .ok (.iload_n 1, 1) := by decide +kernel
theorem d_po_sumAt_26 : decode prog_3_method_8_code 26 = .ok (.invokevirtual 57, 3) := by decide +kernel
theorem d_po_sumAt_29 : decode prog_3_method_8_code 29 = .ok (.iadd, 1) := by decide +kernel
theorem d_po_sumAt_30 : decode prog_3_method_8_code 30 = .ok (.istore_n 2, 1) := by decide +kernel
theorem d_po_sumAt_31 : decode prog_3_method_8_code 31 = .ok (.iinc 3 1, 3) := by decide +kernel
theorem d_po_sumAt_34 : decode prog_3_method_8_code 34 = .ok (.goto (-24), 3) := by decide +kernel
theorem d_po_sumAt_37 : decode prog_3_method_8_code 37 = .ok (.iload_n 2, 1) := by decide +kernel
theorem d_po_sumAt_38 : decode prog_3_method_8_code 38 = .ok (.ireturn, 1) := by decide +kernel
theorem d_po_ownHeightAt_0 : decode prog_3_method_9_code 0 = .ok (.aload_n 0, 1) := by decide +kernel
theorem d_po_ownHeightAt_1 : decode prog_3_method_9_code 1 = .ok (.iload_n 1, 1) := by decide +kernel
theorem d_po_ownHeightAt_2 : decode prog_3_method_9_code 2 = .ok (.invokevirtual 61, 3) := by decide +kernel
theorem d_po_ownHeightAt_5 : decode prog_3_method_9_code 5 = .ok (.istore_n 2, 1) := by decide +kernel
theorem d_po_ownHeightAt_6 : decode prog_3_method_9_code 6 = .ok (.aload_n 0, 1) := by decide +kernel
theorem d_po_ownHeightAt_7 : decode prog_3_method_9_code 7 = .ok (.getfield 22, 3) := by decide +kernel
theorem d_po_ownHeightAt_10 : decode prog_3_method_9_code 10 = .ok (.iconst 4, 1) := by decide +kernel
theorem d_po_ownHeightAt_11 : decode prog_3_method_9_code 11 = .ok (.if_icmp .ne 17, 3) := by decide +kernel
theorem d_po_ownHeightAt_14 : decode prog_3_method_9_code 14 = .ok (.iload_n 1, 1) := by decide +kernel
theorem d_po_ownHeightAt_15 : decode prog_3_method_9_code 15 = .ok (.invokestatic 64, 3) := by decide +kernel
theorem d_po_ownHeightAt_18 : decode prog_3_method_9_code 18 = .ok (.ifCond .eq 10, 3) := by decide +kernel
theorem d_po_ownHeightAt_21 : decode prog_3_method_9_code 21 = .ok (.iload_n 2, 1) := by decide +kernel
theorem d_po_ownHeightAt_22 : decode prog_3_method_9_code 22 = .ok (.aload_n 0, 1) := by decide +kernel
theorem d_po_ownHeightAt_23 : decode prog_3_method_9_code 23 = .ok (.getfield 28, 3) := by decide +kernel
theorem d_po_ownHeightAt_26 : decode prog_3_method_9_code 26 = .ok (.iadd, 1) := by decide +kernel
theorem d_po_ownHeightAt_27 : decode prog_3_method_9_code 27 = .ok (.istore_n 2, 1) := by decide +kernel
theorem d_po_ownHeightAt_28 : decode prog_3_method_9_code 28 = .ok (.aload_n 0, 1) := by decide +kernel
theorem d_po_ownHeightAt_29 : decode prog_3_method_9_code 29 = .ok (.iconst 1, 1) := by decide +kernel
theorem d_po_ownHeightAt_30 : decode prog_3_method_9_code 30 = .ok (.invokevirtual 68, 3) := by decide +kernel
theorem d_po_ownHeightAt_33 : decode prog_3_method_9_code 33 = .ok (.ifCond .eq 15, 3) := by decide +kernel
theorem d_po_ownHeightAt_36 : decode prog_3_method_9_code 36 = .ok (.iload_n 2, 1) := by decide +kernel
theorem d_po_ownHeightAt_37 : decode prog_3_method_9_code 37 = .ok (.bipush 10, 2) := by decide +kernel
theorem d_po_ownHeightAt_39 : decode prog_3_method_9_code 39 = .ok (.aload_n 0, 1) := by decide +kernel
theorem d_po_ownHeightAt_40 : decode prog_3_method_9_code 40 = .ok (.getfield 28, 3) := by decide +kernel
theorem d_po_ownHeightAt_43 : decode prog_3_method_9_code 43 = .ok (.imul, 1) := by decide +kernel
theorem d_po_ownHeightAt_44 : decode prog_3_method_9_code 44 = .ok (.invokestatic 71, 3) := by decide +kernel
theorem d_po_ownHeightAt_47 : decode prog_3_method_9_code 47 = .ok (.istore_n 2, 1) := by decide +kernel
theorem d_po_ownHeightAt_48 : decode prog_3_method_9_code 48 = .ok (.aload_n 0, 1) := by decide +kernel
theorem d_po_ownHeightAt_49 : decode prog_3_method_9_code 49 = .ok (.getfield 22, 3) := by decide +kernel
theorem d_po_ownHeightAt_52 : decode prog_3_method_9_code 52 = .ok (.iconst 2, 1) := by decide +kernel
theorem d_po_ownHeightAt_53 : decode prog_3_method_9_code 53 = .ok (.if_icmp .ne 8, 3) := by decide +kernel
theorem d_po_ownHeightAt_56 : decode prog_3_method_9_code 56 = .ok (.bipush 6, 2) := by decide +kernel
theorem d_po_ownHeightAt_58 : decode prog_3_method_9_code 58 = .ok (.goto 4, 3) := by decide +kernel
theorem d_po_ownHeightAt_61 : decode prog_3_method_9_code 61 = .ok (.iconst 0, 1) := by decide +kernel
theorem d_po_ownHeightAt_62 : decode prog_3_method_9_code 62 = .ok (.istore_n 3, 1) := by decide +kernel
theorem d_po_ownHeightAt_63 : decode prog_3_method_9_code 63 = .ok (.iconst 1, 1) := by decide +kernel
theorem d_po_ownHeightAt_64 : decode prog_3_method_9_code 64 = .ok (.istore 4, 2) := by decide +kernel
theorem d_po_ownHeightAt_66 : decode prog_3_method_9_code 66 = .ok (.iload 4, 2) := by decide +kernel
theorem d_po_ownHeightAt_68 : decode prog_3_method_9_code 68 = .ok (.iload_n 3, 1) := by decide +kernel
theorem d_po_ownHeightAt_69 : decode prog_3_method_9_code 69 = .ok (.if_icmp .gt 22, 3) := by decide +kernel
theorem d_po_ownHeightAt_72 : decode prog_3_method_9_code 72 = .ok (.iload_n 2, 1) := by decide +kernel
theorem d_po_ownHeightAt_73 : decode prog_3_method_9_code 73 = .ok (.aload_n 0, 1) := by decide +kernel
theorem d_po_ownHeightAt_74 : decode prog_3_method_9_code 74 = .ok (.iload_n 1, 1) := by decide +kernel
theorem d_po_ownHeightAt_75 : decode prog_3_method_9_code 75 = .ok (.iload 4, 2) := by decide +kernel
theorem d_po_ownHeightAt_77 : decode prog_3_method_9_code 77 = .ok (.isub, 1) := by decide +kernel
theorem d_po_ownHeightAt_78 : decode prog_3_method_9_code 78 = .ok (.invokevirtual 61, 3) := by decide +kernel
theorem d_po_ownHeightAt_81 : decode prog_3_method_9_code 81 = .ok (.invokestatic 71, 3) := by decide +kernel
theorem d_po_ownHeightAt_84 : decode prog_3_method_9_code 84 = .ok (.istore_n 2, 1) := by decide +kernel
theorem d_po_ownHeightAt_85 : decode prog_3_method_9_code 85 = .ok (.iinc 4 1, 3) := by decide +kernel
theorem d_po_ownHeightAt_88 : decode prog_3_method_9_code 88 = .ok (.goto (-22), 3) := by decide +kernel
theorem d_po_ownHeightAt_91 : decode prog_3_method_9_code 91 = .ok (.iload_n 2, 1) := by decide +kernel
theorem d_po_ownHeightAt_92 : decode prog_3_method_9_code 92 = .ok (.ireturn, 1) := by decide +kernel
theorem d_po_isOddDay_0 : decode prog_3_method_10_code 0 = .ok (.iload_n 0, 1) := by decide +kernel
theorem d_po_isOddDay_1 : decode prog_3_method_10_code 1 = .ok (.sipush 144, 3) := by decide +kernel
theorem d_po_isOddDay_4 : decode prog_3_method_10_code 4 = .ok (.invokestatic 77, 3) := by decide +kernel
theorem d_po_isOddDay_7 : decode prog_3_method_10_code 7 = .ok (.iconst 1, 1) := by decide +kernel
theorem d_po_isOddDay_8 : decode prog_3_method_10_code 8 = .ok (.iand, 1) := by decide +kernel
theorem d_po_isOddDay_9 : decode prog_3_method_10_code 9 = .ok (.iconst 1, 1) := by decide +kernel
theorem d_po_isOddDay_10 : decode prog_3_method_10_code 10 = .ok (.if_icmp .ne 7, 3) := by decide +kernel
theorem d_po_isOddDay_13 : decode prog_3_method_10_code 13 = .ok (.iconst 1, 1) := by decide +kernel
theorem d_po_isOddDay_14 : decode prog_3_method_10_code 14 = .ok (.goto 4, 3) := by decide +kernel
theorem d_po_isOddDay_17 : decode prog_3_method_10_code 17 = .ok (.iconst 0, 1) := by decide +kernel
theorem d_po_isOddDay_18 : decode prog_3_method_10_code 18 = .ok (.ireturn, 1) := by decide +kernel
theorem d_se_init_0 : decode prog_4_method_1_code 0 = .ok (.aload_n 0, 1) := by decide +kernel
theorem d_se_init_1 : decode prog_4_method_1_code 1 = .ok (.invokespecial 3, 3) := by decide +kernel
theorem d_se_init_4 : decode prog_4_method_1_code 4 = .ok (.aload_n 0, 1) := by decide +kernel
theorem d_se_init_5 : decode prog_4_method_1_code 5 = .ok (.iconst 4, 1) := by decide +kernel
theorem d_se_init_6 : decode prog_4_method_1_code 6 = .ok (.anewarray 9, 3) := by decide +kernel
theorem d_se_init_9 : decode prog_4_method_1_code 9 = .ok (.putfield 11, 3) := by decide +kernel
theorem d_se_init_12 : decode prog_4_method_1_code 12 = .ok (.iconst 0, 1) := by decide +kernel
theorem d_se_init_13 : decode prog_4_method_1_code 13 = .ok (.istore_n 1, 1) := by decide +kernel
theorem d_se_init_14 : decode prog_4_method_1_code 14 = .ok (.iload_n 1, 1) := by decide +kernel
theorem d_se_init_15 : decode prog_4_method_1_code 15 = .ok (.iconst 4, 1) := by decide +kernel
theorem d_se_init_16 : decode prog_4_method_1_code 16 = .ok (.if_icmp .ge 22, 3) := by decide +kernel
theorem d_se_init_19 : decode prog_4_method_1_code 19 = .ok (.aload_n 0, 1) := by decide +kernel
theorem d_se_init_20 : decode prog_4_method_1_code 20 = .ok (.getfield 11, 3) := by decide +kernel
theorem d_se_init_23 : decode prog_4_method_1_code 23 = .ok (.iload_n 1, 1) := by decide +kernel
theorem d_se_init_24 : decode prog_4_method_1_code 24 = .ok (.new 9, 3) := by decide +kernel
theorem d_se_init_27 : decode prog_4_method_1_code 27 = .ok (.dup, 1) := by decide +kernel
theorem d_se_init_28 : decode prog_4_method_1_code 28 = .ok (.invokespecial 17, 3) := by decide +kernel
theorem d_se_init_31 : decode prog_4_method_1_code 31 = .ok (.aastore, 1) := by decide +kernel
theorem d_se_init_32 : decode prog_4_method_1_code 32 = .ok (.iinc 1 1, 3) := by decide +kernel
theorem d_se_init_35 : decode prog_4_method_1_code 35 = .ok (.goto (-21), 3) := by decide +kernel
theorem d_se_init_38 : decode prog_4_method_1_code 38 = .ok (.return_, 1) := by decide +kernel
theorem d_se_become_0 : decode prog_4_method_2_code 0 = .ok (.aload_n 0, 1) := by decide +kernel
theorem d_se_become_1 : decode prog_4_method_2_code 1 = .ok (.aload_n 1, 1) := by decide +kernel
theorem d_se_become_2 : decode prog_4_method_2_code 2 = .ok (.getfield 18, 3) := by decide +kernel
theorem d_se_become_5 : decode prog_4_method_2_code 5 = .ok (.putfield 18, 3) := by decide +kernel
theorem d_se_become_8 : decode prog_4_method_2_code 8 = .ok (.aload_n 0, 1) := by decide +kernel
theorem d_se_become_9 : decode prog_4_method_2_code 9 = .ok (.aload_n 1, 1) := by decide +kernel
theorem d_se_become_10 : decode prog_4_method_2_code 10 = .ok (.getfield 22, 3) := by decide +kernel
theorem d_se_become_13 : decode prog_4_method_2_code 13 = .ok (.putfield 22, 3) := by decide +kernel
theorem d_se_become_16 : decode prog_4_method_2_code 16 = .ok (.iconst 0, 1) := by decide +kernel
theorem d_se_become_17 : decode prog_4_method_2_code 17 = .ok (.istore_n 2, 1) := by decide +kernel
theorem d_se_become_18 : decode prog_4_method_2_code 18 = .ok (.iload_n 2, 1) := by decide +kernel
theorem d_se_become_19 : decode prog_4_method_2_code 19 = .ok (.aload_n 0, 1) := by decide +kernel
theorem d_se_become_20 : decode prog_4_method_2_code 20 = .ok (.getfield 18, 3) := by decide +kernel
theorem d_se_become_23 : decode prog_4_method_2_code 23 = .ok (.if_icmp .ge 24, 3) := by decide +kernel
theorem d_se_become_26 : decode prog_4_method_2_code 26 = .ok (.aload_n 0, 1) := by decide +kernel
theorem d_se_become_27 : decode prog_4_method_2_code 27 = .ok (.getfield 11, 3) := by decide +kernel
theorem d_se_become_30 : decode prog_4_method_2_code 30 = .ok (.iload_n 2, 1) := by decide +kernel
theorem d_se_become_31 : decode prog_4_method_2_code 31 = .ok (.aaload, 1) := by decide +kernel
theorem d_se_become_32 : decode prog_4_method_2_code 32 = .ok (.aload_n 1, 1) := by decide +kernel
theorem d_se_become_33 : decode prog_4_method_2_code 33 = .ok (.getfield 11, 3) := by decide +kernel
theorem d_se_become_36 : decode prog_4_method_2_code 36 = .ok (.iload_n 2, 1) := by decide +kernel
theorem d_se_become_37 : decode prog_4_method_2_code 37 = .ok (.aaload, 1) := by decide +kernel
theorem d_se_become_38 : decode prog_4_method_2_code 38 = .ok (.invokevirtual 25, 3) := by decide +kernel
theorem d_se_become_41 : decode prog_4_method_2_code 41 = .ok (.iinc 2 1, 3) := by decide +kernel
theorem d_se_become_44 : decode prog_4_method_2_code 44 = .ok (.goto (-26), 3) := by decide +kernel
theorem d_se_become_47 : decode prog_4_method_2_code 47 = .ok (.return_, 1) := by decide +kernel
theorem d_se_knows_0 : decode prog_4_method_3_code 0 = .ok (.iload_n 1, 1) := by decide +kernel
theorem d_se_knows_1 : decode prog_4_method_3_code 1 = .ok (.ifCond .lt 15, 3) := by decide +kernel
theorem d_se_knows_4 : decode prog_4_method_3_code 4 = .ok (.iload_n 1, 1) := by decide +kernel
theorem d_se_knows_5 : decode prog_4_method_3_code 5 = .ok (.aload_n 0, 1) := by decide +kernel
theorem d_se_knows_6 : decode prog_4_method_3_code 6 = .ok (.getfield 18, 3) := by decide +kernel
theorem d_se_knows_9 : decode prog_4_method_3_code 9 = .ok (.if_icmp .ge 7, 3) := by decide +kernel
theorem d_se_knows_12 : decode prog_4_method_3_code 12 = .ok (.iconst 1, 1) := by decide +kernel
theorem d_se_knows_13 : decode prog_4_method_3_code 13 = .ok (.goto 4, 3) := by decide +kernel
theorem d_se_knows_16 : decode prog_4_method_3_code 16 = .ok (.iconst 0, 1) := by decide +kernel
theorem d_se_knows_17 : decode prog_4_method_3_code 17 = .ok (.ireturn, 1) := by decide +kernel
theorem d_se_heightAt_0 : decode prog_4_method_4_code 0 = .ok (.aload_n 0, 1) := by decide +kernel
theorem d_se_heightAt_1 : decode prog_4_method_4_code 1 = .ok (.iload_n 1, 1) := by decide +kernel
theorem d_se_heightAt_2 : decode prog_4_method_4_code 2 = .ok (.invokevirtual 29, 3) := by decide +kernel
theorem d_se_heightAt_5 : decode prog_4_method_4_code 5 = .ok (.ifCond .ne 5, 3) := by decide +kernel
theorem d_se_heightAt_8 : decode prog_4_method_4_code 8 = .ok (.iconst 0, 1) := by decide +kernel
theorem d_se_heightAt_9 : decode prog_4_method_4_code 9 = .ok (.ireturn, 1) := by decide +kernel
theorem d_se_heightAt_10 : decode prog_4_method_4_code 10 = .ok (.aload_n 0, 1) := by decide +kernel
theorem d_se_heightAt_11 : decode prog_4_method_4_code 11 = .ok (.getfield 11, 3) := by decide +kernel
theorem d_se_heightAt_14 : decode prog_4_method_4_code 14 = .ok (.iload_n 1, 1) := by decide +kernel
theorem d_se_heightAt_15 : decode prog_4_method_4_code 15 = .ok (.aaload, 1) := by decide +kernel
theorem d_se_heightAt_16 : decode prog_4_method_4_code 16 = .ok (.astore_n 3, 1) := by decide +kernel
theorem d_se_heightAt_17 : decode prog_4_method_4_code 17 = .ok (.aload_n 3, 1) := by decide +kernel
theorem d_se_heightAt_18 : decode prog_4_method_4_code 18 = .ok (.getfield 33, 3) := by decide +kernel
theorem d_se_heightAt_21 : decode prog_4_method_4_code 21 = .ok (.iconst 3, 1) := by decide +kernel
theorem d_se_heightAt_22 : decode prog_4_method_4_code 22 = .ok (.if_icmp .eq 9, 3) := by decide +kernel
theorem d_se_heightAt_25 : decode prog_4_method_4_code 25 = .ok (.aload_n 3, 1) := by decide +kernel
theorem d_se_heightAt_26 : decode prog_4_method_4_code 26 = .ok (.iload_n 2, 1) := by decide +kernel
theorem d_se_heightAt_27 : decode prog_4_method_4_code 27 = .ok (.invokevirtual 36, 3) := by decide +kernel
theorem d_se_heightAt_30 : decode prog_4_method_4_code 30 = .ok (.ireturn, 1) := by decide +kernel
theorem d_se_heightAt_31 : decode prog_4_method_4_code 31 = .ok (.aload_n 0, 1) := by decide +kernel
theorem d_se_heightAt_32 : decode prog_4_method_4_code 32 = .ok (.getfield 11, 3) := by decide +kernel
theorem d_se_heightAt_35 : decode prog_4_method_4_code 35 = .ok (.iconst 0, 1) := by decide +kernel
theorem d_se_heightAt_36 : decode prog_4_method_4_code 36 = .ok (.aaload, 1) := by decide +kernel
theorem d_se_heightAt_37 : decode prog_4_method_4_code 37 = .ok (.iload_n 2, 1) := by decide +kernel
theorem d_se_heightAt_38 : decode prog_4_method_4_code 38 = .ok (.aload_n 3, 1) := by decide +kernel
theorem d_se_heightAt_39 : decode prog_4_method_4_code 39 = .ok (.getfield 40, 3) := by decide +kernel
theorem d_se_heightAt_42 : decode prog_4_method_4_code 42 = .ok (.isub, 1) := by decide +kernel
theorem d_se_heightAt_43 : decode prog_4_method_4_code 43 = .ok (.invokevirtual 36, 3) := by decide +kernel
theorem d_se_heightAt_46 : decode prog_4_method_4_code 46 = .ok (.istore 4, 2) := by decide +kernel
theorem d_se_heightAt_48 : decode prog_4_method_4_code 48 = .ok (.iload 4, 2) := by decide +kernel
theorem d_se_heightAt_50 : decode prog_4_method_4_code 50 = .ok (.aload_n 3, 1) := by decide +kernel
theorem d_se_heightAt_51 : decode prog_4_method_4_code 51 = .ok (.getfield 43, 3) := by decide +kernel
theorem d_se_heightAt_54 : decode prog_4_method_4_code 54 = .ok (.imul, 1) := by decide +kernel
theorem d_se_heightAt_55 : decode prog_4_method_4_code 55 = .ok (.bipush 100, 2) := by decide +kernel
theorem d_se_heightAt_57 : decode prog_4_method_4_code 57 = .ok (.invokestatic 46, 3) := by decide +kernel
theorem d_se_heightAt_60 : decode prog_4_method_4_code 60 = .ok (.bipush 10, 2) := by decide +kernel
theorem d_se_heightAt_62 : decode prog_4_method_4_code 62 = .ok (.aload_n 3, 1) := by decide +kernel
theorem d_se_heightAt_63 : decode prog_4_method_4_code 63 = .ok (.getfield 52, 3) := by decide +kernel
theorem d_se_heightAt_66 : decode prog_4_method_4_code 66 = .ok (.imul, 1) := by decide +kernel
theorem d_se_heightAt_67 : decode prog_4_method_4_code 67 = .ok (.iadd, 1) := by decide +kernel
theorem d_se_heightAt_68 : decode prog_4_method_4_code 68 = .ok (.ireturn, 1) := by decide +kernel
theorem d_se_fill_0 : decode prog_4_method_5_code 0 = .ok (.iconst 0, 1) := by decide +kernel
theorem d_se_fill_1 : decode prog_4_method_5_code 1 = .ok (.istore 5, 2) := by decide +kernel
theorem d_se_fill_3 : decode prog_4_method_5_code 3 = .ok (.iload 5, 2) := by decide +kernel
theorem d_se_fill_5 : decode prog_4_method_5_code 5 = .ok (.iload 4, 2) := by decide +kernel
theorem d_se_fill_7 : decode prog_4_method_5_code 7 = .ok (.if_icmp .ge 29, 3) := by decide +kernel
theorem d_se_fill_10 : decode prog_4_method_5_code 10 = .ok (.iload 5, 2) := by decide +kernel
theorem d_se_fill_12 : decode prog_4_method_5_code 12 = .ok (.aload_n 1, 1) := by decide +kernel
theorem d_se_fill_13 : decode prog_4_method_5_code 13 = .ok (.arraylength, 1) := by decide +kernel
theorem d_se_fill_14 : decode prog_4_method_5_code 14 = .ok (.if_icmp .ge 22, 3) := by decide +kernel
theorem d_se_fill_17 : decode prog_4_method_5_code 17 = .ok (.aload_n 1, 1) := by decide +kernel
theorem d_se_fill_18 : decode prog_4_method_5_code 18 = .ok (.iload 5, 2) := by decide +kernel
theorem d_se_fill_20 : decode prog_4_method_5_code 20 = .ok (.aload_n 0, 1) := by decide +kernel
theorem d_se_fill_21 : decode prog_4_method_5_code 21 = .ok (.iload_n 2, 1) := by decide +kernel
theorem d_se_fill_22 : decode prog_4_method_5_code 22 = .ok (.iload_n 3, 1) := by decide +kernel
theorem d_se_fill_23 : decode prog_4_method_5_code 23 = .ok (.iload 5, 2) := by decide +kernel
theorem d_se_fill_25 : decode prog_4_method_5_code 25 = .ok (.iadd, 1) := by decide +kernel
theorem d_se_fill_26 : decode prog_4_method_5_code 26 = .ok (.invokevirtual 55, 3) := by decide +kernel
theorem d_se_fill_29 : decode prog_4_method_5_code 29 = .ok (.iastore, 1) := by decide +kernel
theorem d_se_fill_30 : decode prog_4_method_5_code 30 = .ok (.iinc 5 1, 3) := by decide +kernel
theorem d_se_fill_33 : decode prog_4_method_5_code 33 = .ok (.goto (-30), 3) := by decide +kernel
theorem d_se_fill_36 : decode prog_4_method_5_code 36 = .ok (.return_, 1) := by decide +kernel
theorem d_se_wavesOfAll_0 : decode prog_4_method_6_code 0 = .ok (.iconst 0, 1) := by decide +kernel
theorem d_se_wavesOfAll_1 : decode prog_4_method_6_code 1 = .ok (.istore_n 1, 1) := by decide +kernel
theorem d_se_wavesOfAll_2 : decode prog_4_method_6_code 2 = .ok (.iconst 0, 1) := by decide +kernel
theorem d_se_wavesOfAll_3 : decode prog_4_method_6_code 3 = .ok (.istore_n 2, 1) := by decide +kernel
theorem d_se_wavesOfAll_4 : decode prog_4_method_6_code 4 = .ok (.iload_n 2, 1) := by decide +kernel
theorem d_se_wavesOfAll_5 : decode prog_4_method_6_code 5 = .ok (.aload_n 0, 1) := by decide +kernel
theorem d_se_wavesOfAll_6 : decode prog_4_method_6_code 6 = .ok (.getfield 18, 3) := by decide +kernel
theorem d_se_wavesOfAll_9 : decode prog_4_method_6_code 9 = .ok (.if_icmp .ge 21, 3) := by decide +kernel
theorem d_se_wavesOfAll_12 : decode prog_4_method_6_code 12 = .ok (.iload_n 1, 1) := by decide +kernel
theorem d_se_wavesOfAll_13 : decode prog_4_method_6_code 13 = .ok (.aload_n 0, 1) := by decide +kernel
theorem d_se_wavesOfAll_14 : decode prog_4_method_6_code 14 = .ok (.getfield 11, 3) := by decide +kernel
theorem d_se_wavesOfAll_17 : decode prog_4_method_6_code 17 = .ok (.iload_n 2, 1) := by decide +kernel
theorem d_se_wavesOfAll_18 : decode prog_4_method_6_code 18 = .ok (.aaload, 1) := by decide +kernel
theorem d_se_wavesOfAll_19 : decode prog_4_method_6_code 19 = .ok (.getfield 58, 3) := by decide +kernel
theorem d_se_wavesOfAll_22 : decode prog_4_method_6_code 22 = .ok (.iadd, 1) := by decide +kernel
theorem d_se_wavesOfAll_23 : decode prog_4_method_6_code 23 = .ok (.istore_n 1, 1) := by decide +kernel
theorem d_se_wavesOfAll_24 : decode prog_4_method_6_code 24 = .ok (.iinc 2 1, 3) := by decide +kernel
theorem d_se_wavesOfAll_27 : decode prog_4_method_6_code 27 = .ok (.goto (-23), 3) := by decide +kernel
theorem d_se_wavesOfAll_30 : decode prog_4_method_6_code 30 = .ok (.iload_n 1, 1) := by decide +kernel
theorem d_se_wavesOfAll_31 : decode prog_4_method_6_code 31 = .ok (.ireturn, 1) := by decide +kernel
theorem d_se_followers_0 : decode prog_4_method_7_code 0 = .ok (.iconst 0, 1) := by decide +kernel
theorem d_se_followers_1 : decode prog_4_method_7_code 1 = .ok (.istore_n 1, 1) := by decide +kernel
theorem d_se_followers_2 : decode prog_4_method_7_code 2 = .ok (.iconst 0, 1) := by decide +kernel
theorem d_se_followers_3 : decode prog_4_method_7_code 3 = .ok (.istore_n 2, 1) := by decide +kernel
theorem d_se_followers_4 : decode prog_4_method_7_code 4 = .ok (.iload_n 2, 1) := by decide +kernel
theorem d_se_followers_5 : decode prog_4_method_7_code 5 = .ok (.aload_n 0, 1) := by decide +kernel
theorem d_se_followers_6 : decode prog_4_method_7_code 6 = .ok (.getfield 18, 3) := by decide +kernel
theorem d_se_followers_9 : decode prog_4_method_7_code 9 = .ok (.if_icmp .ge 25, 3) := by decide +kernel
theorem d_se_followers_12 : decode prog_4_method_7_code 12 = .ok (.aload_n 0, 1) := by decide +kernel
theorem d_se_followers_13 : decode prog_4_method_7_code 13 = .ok (.getfield 11, 3) := by decide +kernel
theorem d_se_followers_16 : decode prog_4_method_7_code 16 = .ok (.iload_n 2, 1) := by decide +kernel
theorem d_se_followers_17 : decode prog_4_method_7_code 17 = .ok (.aaload, 1) := by decide +kernel
theorem d_se_followers_18 : decode prog_4_method_7_code 18 = .ok (.getfield 33, 3) := by decide +kernel
theorem d_se_followers_21 : decode prog_4_method_7_code 21 = .ok (.iconst 3, 1) := by decide +kernel
theorem d_se_followers_22 : decode prog_4_method_7_code 22 = .ok (.if_icmp .ne 6, 3) := by decide +kernel
theorem d_se_followers_25 : decode prog_4_method_7_code 25 = .ok (.iinc 1 1, 3) := by decide +kernel
theorem d_se_followers_28 : decode prog_4_method_7_code 28 = .ok (.iinc 2 1, 3) := by decide +kernel
theorem d_se_followers_31 : decode prog_4_method_7_code 31 = .ok (.goto (-27), 3) := by decide +kernel
theorem d_se_followers_34 : decode prog_4_method_7_code 34 = .ok (.iload_n 1, 1) := by decide +kernel
theorem d_se_followers_35 : decode prog_4_method_7_code 35 = .ok (.ireturn, 1) := by decide +kernel
theorem d_se_greatestOnDay0_0 : decode prog_4_method_8_code 0 = .ok (.aload_n 0, 1) := by decide +kernel
theorem d_se_greatestOnDay0_1 : decode prog_4_method_8_code 1 = .ok (.iconst 0, 1) := by decide +kernel
theorem d_se_greatestOnDay0_2 : decode prog_4_method_8_code 2 = .ok (.iconst 0, 1) := by decide +kernel
theorem d_se_greatestOnDay0_3 : decode prog_4_method_8_code 3 = .ok (.invokevirtual 55, 3) := by decide +kernel
theorem d_se_greatestOnDay0_6 : decode prog_4_method_8_code 6 = .ok (.istore_n 1, 1) := by decide +kernel
theorem d_se_greatestOnDay0_7 : decode prog_4_method_8_code 7 = .ok (.iconst 0, 1) := by decide +kernel
theorem d_se_greatestOnDay0_8 : decode prog_4_method_8_code 8 = .ok (.istore_n 2, 1) := by decide +kernel
theorem d_se_greatestOnDay0_9 : decode prog_4_method_8_code 9 = .ok (.iload_n 2, 1) := by decide +kernel
theorem d_se_greatestOnDay0_10 : decode prog_4_method_8_code 10 = .ok (.aload_n 0, 1) := by decide +kernel
theorem d_se_greatestOnDay0_11 : decode prog_4_method_8_code 11 = .ok (.getfield 18, 3) := by decide +kernel
theorem d_se_greatestOnDay0_14 : decode prog_4_method_8_code 14 = .ok (.if_icmp .ge 35, 3) := by decide +kernel
theorem d_se_greatestOnDay0_17 : decode prog_4_method_8_code 17 = .ok (.iconst 0, 1) := by decide +kernel
theorem d_se_greatestOnDay0_18 : decode prog_4_method_8_code 18 = .ok (.istore_n 3, 1) := by decide +kernel
theorem d_se_greatestOnDay0_19 : decode prog_4_method_8_code 19 = .ok (.iload_n 3, 1) := by decide +kernel
theorem d_se_greatestOnDay0_20 : decode prog_4_method_8_code 20 = .ok (.sipush 144, 3) := by decide +kernel
theorem d_se_greatestOnDay0_23 : decode prog_4_method_8_code 23 = .ok (.if_icmp .ge 20, 3) := by decide +kernel
theorem d_se_greatestOnDay0_26 : decode prog_4_method_8_code 26 = .ok (.iload_n 1, 1) := by decide +kernel
theorem d_se_greatestOnDay0_27 : decode prog_4_method_8_code 27 = .ok (.aload_n 0, 1) := by decide +kernel
theorem d_se_greatestOnDay0_28 : decode prog_4_method_8_code 28 = .ok (.iload_n 2, 1) := by decide +kernel
theorem d_se_greatestOnDay0_29 : decode prog_4_method_8_code 29 = .ok (.iload_n 3, 1) := by decide +kernel
theorem d_se_greatestOnDay0_30 : decode prog_4_method_8_code 30 = .ok (.invokevirtual 55, 3) := by decide +kernel
theorem d_se_greatestOnDay0_33 : decode prog_4_method_8_code 33 = .ok (.invokestatic 59, 3) := by decide +kernel
theorem d_se_greatestOnDay0_36 : decode prog_4_method_8_code 36 = .ok (.istore_n 1, 1) := by decide +kernel
theorem d_se_greatestOnDay0_37 : decode prog_4_method_8_code 37 = .ok (.iinc 3 1, 3) := by decide +kernel
theorem d_se_greatestOnDay0_40 : decode prog_4_method_8_code 40 = .ok (.goto (-21), 3) := by decide +kernel
theorem d_se_greatestOnDay0_43 : decode prog_4_method_8_code 43 = .ok (.iinc 2 1, 3) := by decide +kernel
theorem d_se_greatestOnDay0_46 : decode prog_4_method_8_code 46 = .ok (.goto (-37), 3) := by decide +kernel
theorem d_se_greatestOnDay0_49 : decode prog_4_method_8_code 49 = .ok (.iload_n 1, 1) := by decide +kernel
theorem d_se_greatestOnDay0_50 : decode prog_4_method_8_code 50 = .ok (.ireturn, 1) := by decide +kernel
theorem d_wa_init_0 : decode prog_5_method_1_code 0 = .ok (.aload_n 0, 1) := by decide +kernel
theorem d_wa_init_1 : decode prog_5_method_1_code 1 = .ok (.invokespecial 1, 3) := by decide +kernel
theorem d_wa_init_4 : decode prog_5_method_1_code 4 = .ok (.return_, 1) := by decide +kernel
theorem d_wa_put_0 : decode prog_5_method_2_code 0 = .ok (.aload_n 0, 1) := by decide +kernel
theorem d_wa_put_1 : decode prog_5_method_2_code 1 = .ok (.iload_n 1, 1) := by decide +kernel
theorem d_wa_put_2 : decode prog_5_method_2_code 2 = .ok (.putfield 7, 3) := by decide +kernel
theorem d_wa_put_5 : decode prog_5_method_2_code 5 = .ok (.aload_n 0, 1) := by decide +kernel
theorem d_wa_put_6 : decode prog_5_method_2_code 6 = .ok (.iload_n 2, 1) := by decide +kernel
theorem d_wa_put_7 : decode prog_5_method_2_code 7 = .ok (.putfield 13, 3) := by decide +kernel
theorem d_wa_put_10 : decode prog_5_method_2_code 10 = .ok (.aload_n 0, 1) := by decide +kernel
theorem d_wa_put_11 : decode prog_5_method_2_code 11 = .ok (.iload_n 3, 1) := by decide +kernel
theorem d_wa_put_12 : decode prog_5_method_2_code 12 = .ok (.putfield 16, 3) := by decide +kernel
theorem d_wa_put_15 : decode prog_5_method_2_code 15 = .ok (.return_, 1) := by decide +kernel
theorem d_wa_givesAt_0 : decode prog_5_method_3_code 0 = .ok (.aload_n 0, 1) := by decide +kernel
theorem d_wa_givesAt_1 : decode prog_5_method_3_code 1 = .ok (.getfield 7, 3) := by decide +kernel
theorem d_wa_givesAt_4 : decode prog_5_method_3_code 4 = .ok (.iload_n 1, 1) := by decide +kernel
theorem d_wa_givesAt_5 : decode prog_5_method_3_code 5 = .ok (.imul, 1) := by decide +kernel
theorem d_wa_givesAt_6 : decode prog_5_method_3_code 6 = .ok (.bipush 16, 2) := by decide +kernel
theorem d_wa_givesAt_8 : decode prog_5_method_3_code 8 = .ok (.aload_n 0, 1) := by decide +kernel
theorem d_wa_givesAt_9 : decode prog_5_method_3_code 9 = .ok (.getfield 16, 3) := by decide +kernel
theorem d_wa_givesAt_12 : decode prog_5_method_3_code 12 = .ok (.imul, 1) := by decide +kernel
theorem d_wa_givesAt_13 : decode prog_5_method_3_code 13 = .ok (.iadd, 1) := by decide +kernel
theorem d_wa_givesAt_14 : decode prog_5_method_3_code 14 = .ok (.sipush 1023, 3) := by decide +kernel
theorem d_wa_givesAt_17 : decode prog_5_method_3_code 17 = .ok (.iand, 1) := by decide +kernel
theorem d_wa_givesAt_18 : decode prog_5_method_3_code 18 = .ok (.istore_n 2, 1) := by decide +kernel
theorem d_wa_givesAt_19 : decode prog_5_method_3_code 19 = .ok (.iload_n 2, 1) := by decide +kernel
theorem d_wa_givesAt_20 : decode prog_5_method_3_code 20 = .ok (.iconst 4, 1) := by decide +kernel
theorem d_wa_givesAt_21 : decode prog_5_method_3_code 21 = .ok (.ishr, 1) := by decide +kernel
theorem d_wa_givesAt_22 : decode prog_5_method_3_code 22 = .ok (.istore_n 3, 1) := by decide +kernel
theorem d_wa_givesAt_23 : decode prog_5_method_3_code 23 = .ok (.iload_n 2, 1) := by decide +kernel
theorem d_wa_givesAt_24 : decode prog_5_method_3_code 24 = .ok (.bipush 15, 2) := by decide +kernel
theorem d_wa_givesAt_26 : decode prog_5_method_3_code 26 = .ok (.iand, 1) := by decide +kernel
theorem d_wa_givesAt_27 : decode prog_5_method_3_code 27 = .ok (.istore 4, 2) := by decide +kernel
theorem d_wa_givesAt_29 : decode prog_5_method_3_code 29 = .ok (.iload_n 3, 1) := by decide +kernel
theorem d_wa_givesAt_30 : decode prog_5_method_3_code 30 = .ok (.invokestatic 19, 3) := by decide +kernel
theorem d_wa_givesAt_33 : decode prog_5_method_3_code 33 = .ok (.bipush 16, 2) := by decide +kernel
theorem d_wa_givesAt_35 : decode prog_5_method_3_code 35 = .ok (.iload 4, 2) := by decide +kernel
theorem d_wa_givesAt_37 : decode prog_5_method_3_code 37 = .ok (.isub, 1) := by decide +kernel
theorem d_wa_givesAt_38 : decode prog_5_method_3_code 38 = .ok (.imul, 1) := by decide +kernel
theorem d_wa_givesAt_39 : decode prog_5_method_3_code 39 = .ok (.iload_n 3, 1) := by decide +kernel
theorem d_wa_givesAt_40 : decode prog_5_method_3_code 40 = .ok (.iconst 1, 1) := by decide +kernel
theorem d_wa_givesAt_41 : decode prog_5_method_3_code 41 = .ok (.iadd, 1) := by decide +kernel
theorem d_wa_givesAt_42 : decode prog_5_method_3_code 42 = .ok (.invokestatic 19, 3) := by decide +kernel
theorem d_wa_givesAt_45 : decode prog_5_method_3_code 45 = .ok (.iload 4, 2) := by decide +kernel
theorem d_wa_givesAt_47 : decode prog_5_method_3_code 47 = .ok (.imul, 1) := by decide +kernel
theorem d_wa_givesAt_48 : decode prog_5_method_3_code 48 = .ok (.iadd, 1) := by decide +kernel
theorem d_wa_givesAt_49 : decode prog_5_method_3_code 49 = .ok (.iconst 4, 1) := by decide +kernel
theorem d_wa_givesAt_50 : decode prog_5_method_3_code 50 = .ok (.ishr, 1) := by decide +kernel
theorem d_wa_givesAt_51 : decode prog_5_method_3_code 51 = .ok (.istore 5, 2) := by decide +kernel
theorem d_wa_givesAt_53 : decode prog_5_method_3_code 53 = .ok (.aload_n 0, 1) := by decide +kernel
theorem d_wa_givesAt_54 : decode prog_5_method_3_code 54 = .ok (.getfield 13, 3) := by decide +kernel
theorem d_wa_givesAt_57 : decode prog_5_method_3_code 57 = .ok (.iload 5, 2) := by decide +kernel
theorem d_wa_givesAt_59 : decode prog_5_method_3_code 59 = .ok (.imul, 1) := by decide +kernel
theorem d_wa_givesAt_60 : decode prog_5_method_3_code 60 = .ok (.bipush 100, 2) := by decide +kernel
theorem d_wa_givesAt_62 : decode prog_5_method_3_code 62 = .ok (.invokestatic 25, 3) := by decide +kernel
theorem d_wa_givesAt_65 : decode prog_5_method_3_code 65 = .ok (.ireturn, 1) := by decide +kernel
theorem d_tb_init_0 : decode prog_1_method_1_code 0 = .ok (.aload_n 0, 1) := by decide +kernel
theorem d_tb_init_1 : decode prog_1_method_1_code 1 = .ok (.invokespecial 3, 3) := by decide +kernel
theorem d_tb_init_4 : decode prog_1_method_1_code 4 = .ok (.aload_n 0, 1) := by decide +kernel
theorem d_tb_init_5 : decode prog_1_method_1_code 5 = .ok (.new 9, 3) := by decide +kernel
theorem d_tb_init_8 : decode prog_1_method_1_code 8 = .ok (.dup, 1) := by decide +kernel
theorem d_tb_init_9 : decode prog_1_method_1_code 9 = .ok (.invokespecial 11, 3) := by decide +kernel
theorem d_tb_init_12 : decode prog_1_method_1_code 12 = .ok (.putfield 12, 3) := by decide +kernel
theorem d_tb_init_15 : decode prog_1_method_1_code 15 = .ok (.aload_n 0, 1) := by decide +kernel
theorem d_tb_init_16 : decode prog_1_method_1_code 16 = .ok (.new 16, 3) := by decide +kernel
theorem d_tb_init_19 : decode prog_1_method_1_code 19 = .ok (.dup, 1) := by decide +kernel
theorem d_tb_init_20 : decode prog_1_method_1_code 20 = .ok (.invokespecial 18, 3) := by decide +kernel
theorem d_tb_init_23 : decode prog_1_method_1_code 23 = .ok (.putfield 19, 3) := by decide +kernel
theorem d_tb_init_26 : decode prog_1_method_1_code 26 = .ok (.aload_n 0, 1) := by decide +kernel
theorem d_tb_init_27 : decode prog_1_method_1_code 27 = .ok (.new 16, 3) := by decide +kernel
theorem d_tb_init_30 : decode prog_1_method_1_code 30 = .ok (.dup, 1) := by decide +kernel
theorem d_tb_init_31 : decode prog_1_method_1_code 31 = .ok (.invokespecial 18, 3) := by decide +kernel
theorem d_tb_init_34 : decode prog_1_method_1_code 34 = .ok (.putfield 23, 3) := by decide +kernel
theorem d_tb_init_37 : decode prog_1_method_1_code 37 = .ok (.aload_n 0, 1) := by decide +kernel
theorem d_tb_init_38 : decode prog_1_method_1_code 38 = .ok (.sipush 344, 3) := by decide +kernel
theorem d_tb_init_41 : decode prog_1_method_1_code 41 = .ok (.newarray .int, 2) := by decide +kernel
theorem d_tb_init_43 : decode prog_1_method_1_code 43 = .ok (.putfield 26, 3) := by decide +kernel
theorem d_tb_init_46 : decode prog_1_method_1_code 46 = .ok (.aload_n 0, 1) := by decide +kernel
theorem d_tb_init_47 : decode prog_1_method_1_code 47 = .ok (.sipush 344, 3) := by decide +kernel
theorem d_tb_init_50 : decode prog_1_method_1_code 50 = .ok (.newarray .int, 2) := by decide +kernel
theorem d_tb_init_52 : decode prog_1_method_1_code 52 = .ok (.putfield 30, 3) := by decide +kernel
theorem d_tb_init_55 : decode prog_1_method_1_code 55 = .ok (.return_, 1) := by decide +kernel
theorem d_tb_letter_0 : decode prog_1_method_2_code 0 = .ok (.iload_n 1, 1) := by decide +kernel
theorem d_tb_letter_1 : decode prog_1_method_2_code 1 = .ok (.bipush 32, 2) := by decide +kernel
theorem d_tb_letter_3 : decode prog_1_method_2_code 3 = .ok (.bipush 126, 2) := by decide +kernel
theorem d_tb_letter_5 : decode prog_1_method_2_code 5 = .ok (.invokestatic 33, 3) := by decide +kernel
theorem d_tb_letter_8 : decode prog_1_method_2_code 8 = .ok (.ifCond .ne 7, 3) := by decide +kernel
theorem d_tb_letter_11 : decode prog_1_method_2_code 11 = .ok (.sipush (-10102), 3) := by decide +kernel
theorem d_tb_letter_14 : decode prog_1_method_2_code 14 = .ok (.ireturn, 1) := by decide +kernel
theorem d_tb_letter_15 : decode prog_1_method_2_code 15 = .ok (.aload_n 0, 1) := by decide +kernel
theorem d_tb_letter_16 : decode prog_1_method_2_code 16 = .ok (.getfield 12, 3) := by decide +kernel
theorem d_tb_letter_19 : decode prog_1_method_2_code 19 = .ok (.getfield 37, 3) := by decide +kernel
theorem d_tb_letter_22 : decode prog_1_method_2_code 22 = .ok (.bipush 96, 2) := by decide +kernel
theorem d_tb_letter_24 : decode prog_1_method_2_code 24 = .ok (.if_icmp .lt 7, 3) := by decide +kernel
theorem d_tb_letter_27 : decode prog_1_method_2_code 27 = .ok (.sipush (-10104), 3) := by decide +kernel
theorem d_tb_letter_30 : decode prog_1_method_2_code 30 = .ok (.ireturn, 1) := by decide +kernel
theorem d_tb_letter_31 : decode prog_1_method_2_code 31 = .ok (.aload_n 0, 1) := by decide +kernel
theorem d_tb_letter_32 : decode prog_1_method_2_code 32 = .ok (.getfield 12, 3) := by decide +kernel
theorem d_tb_letter_35 : decode prog_1_method_2_code 35 = .ok (.getfield 41, 3) := by decide +kernel
theorem d_tb_letter_38 : decode prog_1_method_2_code 38 = .ok (.aload_n 0, 1) := by decide +kernel
theorem d_tb_letter_39 : decode prog_1_method_2_code 39 = .ok (.getfield 12, 3) := by decide +kernel
theorem d_tb_letter_42 : decode prog_1_method_2_code 42 = .ok (.getfield 37, 3) := by decide +kernel
theorem d_tb_letter_45 : decode prog_1_method_2_code 45 = .ok (.iload_n 1, 1) := by decide +kernel
theorem d_tb_letter_46 : decode prog_1_method_2_code 46 = .ok (.iastore, 1) := by decide +kernel
theorem d_tb_letter_47 : decode prog_1_method_2_code 47 = .ok (.aload_n 0, 1) := by decide +kernel
theorem d_tb_letter_48 : decode prog_1_method_2_code 48 = .ok (.getfield 12, 3) := by decide +kernel
theorem d_tb_letter_51 : decode prog_1_method_2_code 51 = .ok (.dup, 1) := by decide +kernel
theorem d_tb_letter_52 : decode prog_1_method_2_code 52 = .ok (.getfield 37, 3) := by decide +kernel
theorem d_tb_letter_55 : decode prog_1_method_2_code 55 = .ok (.iconst 1, 1) := by decide +kernel
theorem d_tb_letter_56 : decode prog_1_method_2_code 56 = .ok (.iadd, 1) := by decide +kernel
theorem d_tb_letter_57 : decode prog_1_method_2_code 57 = .ok (.putfield 37, 3) := by decide +kernel
theorem d_tb_letter_60 : decode prog_1_method_2_code 60 = .ok (.aload_n 0, 1) := by decide +kernel
theorem d_tb_letter_61 : decode prog_1_method_2_code 61 = .ok (.getfield 12, 3) := by decide +kernel
theorem d_tb_letter_64 : decode prog_1_method_2_code 64 = .ok (.getfield 37, 3) := by decide +kernel
theorem d_tb_letter_67 : decode prog_1_method_2_code 67 = .ok (.ireturn, 1) := by decide +kernel
theorem d_tb_blank_0 : decode prog_1_method_3_code 0 = .ok (.aload_n 0, 1) := by decide +kernel
theorem d_tb_blank_1 : decode prog_1_method_3_code 1 = .ok (.getfield 12, 3) := by decide +kernel
theorem d_tb_blank_4 : decode prog_1_method_3_code 4 = .ok (.getfield 37, 3) := by decide +kernel
theorem d_tb_blank_7 : decode prog_1_method_3_code 7 = .ok (.istore_n 1, 1) := by decide +kernel
theorem d_tb_blank_8 : decode prog_1_method_3_code 8 = .ok (.aload_n 0, 1) := by decide +kernel
theorem d_tb_blank_9 : decode prog_1_method_3_code 9 = .ok (.getfield 12, 3) := by decide +kernel
theorem d_tb_blank_12 : decode prog_1_method_3_code 12 = .ok (.iconst 0, 1) := by decide +kernel
theorem d_tb_blank_13 : decode prog_1_method_3_code 13 = .ok (.putfield 37, 3) := by decide +kernel
theorem d_tb_blank_16 : decode prog_1_method_3_code 16 = .ok (.iload_n 1, 1) := by decide +kernel
theorem d_tb_blank_17 : decode prog_1_method_3_code 17 = .ok (.ireturn, 1) := by decide +kernel
theorem d_tb_fault_0 : decode prog_1_method_4_code 0 = .ok (.aload_n 0, 1) := by decide +kernel
theorem d_tb_fault_1 : decode prog_1_method_4_code 1 = .ok (.getfield 12, 3) := by decide +kernel
theorem d_tb_fault_4 : decode prog_1_method_4_code 4 = .ok (.invokevirtual 44, 3) := by decide +kernel
theorem d_tb_fault_7 : decode prog_1_method_4_code 7 = .ok (.ireturn, 1) := by decide +kernel
theorem d_tb_ports_0 : decode prog_1_method_5_code 0 = .ok (.aload_n 0, 1) := by decide +kernel
theorem d_tb_ports_1 : decode prog_1_method_5_code 1 = .ok (.getfield 12, 3) := by decide +kernel
theorem d_tb_ports_4 : decode prog_1_method_5_code 4 = .ok (.invokevirtual 48, 3) := by decide +kernel
theorem d_tb_ports_7 : decode prog_1_method_5_code 7 = .ok (.ifCond .ne 7, 3) := by decide +kernel
theorem d_tb_ports_10 : decode prog_1_method_5_code 10 = .ok (.sipush (-10103), 3) := by decide +kernel
theorem d_tb_ports_13 : decode prog_1_method_5_code 13 = .ok (.ireturn, 1) := by decide +kernel
theorem d_tb_ports_14 : decode prog_1_method_5_code 14 = .ok (.aload_n 0, 1) := by decide +kernel
theorem d_tb_ports_15 : decode prog_1_method_5_code 15 = .ok (.getfield 12, 3) := by decide +kernel
theorem d_tb_ports_18 : decode prog_1_method_5_code 18 = .ok (.aload_n 0, 1) := by decide +kernel
theorem d_tb_ports_19 : decode prog_1_method_5_code 19 = .ok (.getfield 19, 3) := by decide +kernel
theorem d_tb_ports_22 : decode prog_1_method_5_code 22 = .ok (.invokevirtual 52, 3) := by decide +kernel
theorem d_tb_ports_25 : decode prog_1_method_5_code 25 = .ok (.aload_n 0, 1) := by decide +kernel
theorem d_tb_ports_26 : decode prog_1_method_5_code 26 = .ok (.getfield 12, 3) := by decide +kernel
theorem d_tb_ports_29 : decode prog_1_method_5_code 29 = .ok (.iconst 0, 1) := by decide +kernel
theorem d_tb_ports_30 : decode prog_1_method_5_code 30 = .ok (.putfield 37, 3) := by decide +kernel
theorem d_tb_ports_33 : decode prog_1_method_5_code 33 = .ok (.aload_n 0, 1) := by decide +kernel
theorem d_tb_ports_34 : decode prog_1_method_5_code 34 = .ok (.iconst 0, 1) := by decide +kernel
theorem d_tb_ports_35 : decode prog_1_method_5_code 35 = .ok (.putfield 56, 3) := by decide +kernel
theorem d_tb_ports_38 : decode prog_1_method_5_code 38 = .ok (.aload_n 0, 1) := by decide +kernel
theorem d_tb_ports_39 : decode prog_1_method_5_code 39 = .ok (.dup, 1) := by decide +kernel
theorem d_tb_ports_40 : decode prog_1_method_5_code 40 = .ok (.getfield 60, 3) := by decide +kernel
theorem d_tb_ports_43 : decode prog_1_method_5_code 43 = .ok (.iconst 1, 1) := by decide +kernel
theorem d_tb_ports_44 : decode prog_1_method_5_code 44 = .ok (.iadd, 1) := by decide +kernel
theorem d_tb_ports_45 : decode prog_1_method_5_code 45 = .ok (.putfield 60, 3) := by decide +kernel
theorem d_tb_ports_48 : decode prog_1_method_5_code 48 = .ok (.aload_n 0, 1) := by decide +kernel
theorem d_tb_ports_49 : decode prog_1_method_5_code 49 = .ok (.getfield 19, 3) := by decide +kernel
theorem d_tb_ports_52 : decode prog_1_method_5_code 52 = .ok (.getfield 63, 3) := by decide +kernel
theorem d_tb_ports_55 : decode prog_1_method_5_code 55 = .ok (.ireturn, 1) := by decide +kernel
theorem d_tb_port_0 : decode prog_1_method_6_code 0 = .ok (.aload_n 0, 1) := by decide +kernel
theorem d_tb_port_1 : decode prog_1_method_6_code 1 = .ok (.getfield 19, 3) := by decide +kernel
theorem d_tb_port_4 : decode prog_1_method_6_code 4 = .ok (.iload_n 1, 1) := by decide +kernel
theorem d_tb_port_5 : decode prog_1_method_6_code 5 = .ok (.invokevirtual 64, 3) := by decide +kernel
theorem d_tb_port_8 : decode prog_1_method_6_code 8 = .ok (.ifCond .ne 7, 3) := by decide +kernel
theorem d_tb_port_11 : decode prog_1_method_6_code 11 = .ok (.sipush (-10101), 3) := by decide +kernel
theorem d_tb_port_14 : decode prog_1_method_6_code 14 = .ok (.ireturn, 1) := by decide +kernel
theorem d_tb_port_15 : decode prog_1_method_6_code 15 = .ok (.aload_n 0, 1) := by decide +kernel
theorem d_tb_port_16 : decode prog_1_method_6_code 16 = .ok (.getfield 19, 3) := by decide +kernel
theorem d_tb_port_19 : decode prog_1_method_6_code 19 = .ok (.getfield 68, 3) := by decide +kernel
theorem d_tb_port_22 : decode prog_1_method_6_code 22 = .ok (.iload_n 1, 1) := by decide +kernel
theorem d_tb_port_23 : decode prog_1_method_6_code 23 = .ok (.aaload, 1) := by decide +kernel
theorem d_tb_port_24 : decode prog_1_method_6_code 24 = .ok (.astore_n 3, 1) := by decide +kernel
theorem d_tb_port_25 : decode prog_1_method_6_code 25 = .ok (.iload_n 2, 1) := by decide +kernel
theorem d_tb_port_26 : decode prog_1_method_6_code 26 = .ok (.tableswitch 80 0 6 #[42, 47, 52, 57, 62, 67, 72], 42) := by decide +kernel
theorem d_tb_port_68 : decode prog_1_method_6_code 68 = .ok (.aload_n 3, 1) := by decide +kernel
theorem d_tb_port_69 : decode prog_1_method_6_code 69 = .ok (.getfield 72, 3) := by decide +kernel
theorem d_tb_port_72 : decode prog_1_method_6_code 72 = .ok (.ireturn, 1) := by decide +kernel
theorem d_tb_port_73 : decode prog_1_method_6_code 73 = .ok (.aload_n 3, 1) := by decide +kernel
theorem d_tb_port_74 : decode prog_1_method_6_code 74 = .ok (.getfield 77, 3) := by decide +kernel
theorem d_tb_port_77 : decode prog_1_method_6_code 77 = .ok (.ireturn, 1) := by decide +kernel
theorem d_tb_port_78 : decode prog_1_method_6_code 78 = .ok (.aload_n 3, 1) := by decide +kernel
theorem d_tb_port_79 : decode prog_1_method_6_code 79 = .ok (.getfield 80, 3) := by decide +kernel
theorem d_tb_port_82 : decode prog_1_method_6_code 82 = .ok (.ireturn, 1) := by decide +kernel
theorem d_tb_port_83 : decode prog_1_method_6_code 83 = .ok (.aload_n 3, 1) := by decide +kernel
theorem d_tb_port_84 : decode prog_1_method_6_code 84 = .ok (.getfield 83, 3) := by decide +kernel
theorem d_tb_port_87 : decode prog_1_method_6_code 87 = .ok (.ireturn, 1) := by decide +kernel
theorem d_tb_port_88 : decode prog_1_method_6_code 88 = .ok (.aload_n 3, 1) := by decide +kernel
theorem d_tb_port_89 : decode prog_1_method_6_code 89 = .ok (.getfield 86, 3) := by decide +kernel
theorem d_tb_port_92 : decode prog_1_method_6_code 92 = .ok (.ireturn, 1) := by decide +kernel
theorem d_tb_port_93 : decode prog_1_method_6_code 93 = .ok (.aload_n 3, 1) := by decide +kernel
theorem d_tb_port_94 : decode prog_1_method_6_code 94 = .ok (.getfield 87, 3) := by decide +kernel
theorem d_tb_port_97 : decode prog_1_method_6_code 97 = .ok (.ireturn, 1) := by decide +kernel
theorem d_tb_port_98 : decode prog_1_method_6_code 98 = .ok (.aload_n 3, 1) := by decide +kernel
theorem d_tb_port_99 : decode prog_1_method_6_code 99 = .ok (.getfield 87, 3) := by decide +kernel
theorem d_tb_port_102 : decode prog_1_method_6_code 102 = .ok (.invokestatic 90, 3) := by decide +kernel
theorem d_tb_port_105 : decode prog_1_method_6_code 105 = .ok (.ireturn, 1) := by decide +kernel
theorem d_tb_port_106 : decode prog_1_method_6_code 106 = .ok (.sipush (-10102), 3) := by decide +kernel
theorem d_tb_port_109 : decode prog_1_method_6_code 109 = .ok (.ireturn, 1) := by decide +kernel
theorem d_tb_wave_0 : decode prog_1_method_7_code 0 = .ok (.aload_n 0, 1) := by decide +kernel
theorem d_tb_wave_1 : decode prog_1_method_7_code 1 = .ok (.getfield 19, 3) := by decide +kernel
theorem d_tb_wave_4 : decode prog_1_method_7_code 4 = .ok (.iload_n 1, 1) := by decide +kernel
theorem d_tb_wave_5 : decode prog_1_method_7_code 5 = .ok (.invokevirtual 64, 3) := by decide +kernel
theorem d_tb_wave_8 : decode prog_1_method_7_code 8 = .ok (.ifCond .eq 19, 3) := by decide +kernel
theorem d_tb_wave_11 : decode prog_1_method_7_code 11 = .ok (.aload_n 0, 1) := by decide +kernel
theorem d_tb_wave_12 : decode prog_1_method_7_code 12 = .ok (.getfield 19, 3) := by decide +kernel
theorem d_tb_wave_15 : decode prog_1_method_7_code 15 = .ok (.getfield 68, 3) := by decide +kernel
theorem d_tb_wave_18 : decode prog_1_method_7_code 18 = .ok (.iload_n 1, 1) := by decide +kernel
theorem d_tb_wave_19 : decode prog_1_method_7_code 19 = .ok (.aaload, 1) := by decide +kernel
theorem d_tb_wave_20 : decode prog_1_method_7_code 20 = .ok (.iload_n 2, 1) := by decide +kernel
theorem d_tb_wave_21 : decode prog_1_method_7_code 21 = .ok (.invokevirtual 94, 3) := by decide +kernel
theorem d_tb_wave_24 : decode prog_1_method_7_code 24 = .ok (.ifCond .ne 7, 3) := by decide +kernel
theorem d_tb_wave_27 : decode prog_1_method_7_code 27 = .ok (.sipush (-10101), 3) := by decide +kernel
theorem d_tb_wave_30 : decode prog_1_method_7_code 30 = .ok (.ireturn, 1) := by decide +kernel
theorem d_tb_wave_31 : decode prog_1_method_7_code 31 = .ok (.aload_n 0, 1) := by decide +kernel
theorem d_tb_wave_32 : decode prog_1_method_7_code 32 = .ok (.getfield 19, 3) := by decide +kernel
theorem d_tb_wave_35 : decode prog_1_method_7_code 35 = .ok (.getfield 68, 3) := by decide +kernel
theorem d_tb_wave_38 : decode prog_1_method_7_code 38 = .ok (.iload_n 1, 1) := by decide +kernel
theorem d_tb_wave_39 : decode prog_1_method_7_code 39 = .ok (.aaload, 1) := by decide +kernel
theorem d_tb_wave_40 : decode prog_1_method_7_code 40 = .ok (.getfield 97, 3) := by decide +kernel
theorem d_tb_wave_43 : decode prog_1_method_7_code 43 = .ok (.iload_n 2, 1) := by decide +kernel
theorem d_tb_wave_44 : decode prog_1_method_7_code 44 = .ok (.aaload, 1) := by decide +kernel
theorem d_tb_wave_45 : decode prog_1_method_7_code 45 = .ok (.astore 4, 2) := by decide +kernel
theorem d_tb_wave_47 : decode prog_1_method_7_code 47 = .ok (.iload_n 3, 1) := by decide +kernel
theorem d_tb_wave_48 : decode prog_1_method_7_code 48 = .ok (.tableswitch 46 0 2 #[28, 34, 40], 28) := by decide +kernel
theorem d_tb_wave_76 : decode prog_1_method_7_code 76 = .ok (.aload 4, 2) := by decide +kernel
theorem d_tb_wave_78 : decode prog_1_method_7_code 78 = .ok (.getfield 101, 3) := by decide +kernel
theorem d_tb_wave_81 : decode prog_1_method_7_code 81 = .ok (.ireturn, 1) := by decide +kernel
theorem d_tb_wave_82 : decode prog_1_method_7_code 82 = .ok (.aload 4, 2) := by decide +kernel
theorem d_tb_wave_84 : decode prog_1_method_7_code 84 = .ok (.getfield 106, 3) := by decide +kernel
theorem d_tb_wave_87 : decode prog_1_method_7_code 87 = .ok (.ireturn, 1) := by decide +kernel
theorem d_tb_wave_88 : decode prog_1_method_7_code 88 = .ok (.aload 4, 2) := by decide +kernel
theorem d_tb_wave_90 : decode prog_1_method_7_code 90 = .ok (.getfield 109, 3) := by decide +kernel
theorem d_tb_wave_93 : decode prog_1_method_7_code 93 = .ok (.ireturn, 1) := by decide +kernel
theorem d_tb_wave_94 : decode prog_1_method_7_code 94 = .ok (.sipush (-10102), 3) := by decide +kernel
theorem d_tb_wave_97 : decode prog_1_method_7_code 97 = .ok (.ireturn, 1) := by decide +kernel
theorem d_tb_as_0 : decode prog_1_method_8_code 0 = .ok (.aload_n 0, 1) := by decide +kernel
theorem d_tb_as_1 : decode prog_1_method_8_code 1 = .ok (.getfield 19, 3) := by decide +kernel
theorem d_tb_as_4 : decode prog_1_method_8_code 4 = .ok (.iload_n 1, 1) := by decide +kernel
theorem d_tb_as_5 : decode prog_1_method_8_code 5 = .ok (.invokevirtual 64, 3) := by decide +kernel
theorem d_tb_as_8 : decode prog_1_method_8_code 8 = .ok (.ifCond .ne 7, 3) := by decide +kernel
theorem d_tb_as_11 : decode prog_1_method_8_code 11 = .ok (.sipush (-10101), 3) := by decide +kernel
theorem d_tb_as_14 : decode prog_1_method_8_code 14 = .ok (.ireturn, 1) := by decide +kernel
theorem d_tb_as_15 : decode prog_1_method_8_code 15 = .ok (.iload_n 2, 1) := by decide +kernel
theorem d_tb_as_16 : decode prog_1_method_8_code 16 = .ok (.iconst 0, 1) := by decide +kernel
theorem d_tb_as_17 : decode prog_1_method_8_code 17 = .ok (.iconst 4, 1) := by decide +kernel
theorem d_tb_as_18 : decode prog_1_method_8_code 18 = .ok (.invokestatic 33, 3) := by decide +kernel
theorem d_tb_as_21 : decode prog_1_method_8_code 21 = .ok (.ifCond .ne 7, 3) := by decide +kernel
theorem d_tb_as_24 : decode prog_1_method_8_code 24 = .ok (.sipush (-10102), 3) := by decide +kernel
theorem d_tb_as_27 : decode prog_1_method_8_code 27 = .ok (.ireturn, 1) := by decide +kernel
theorem d_tb_as_28 : decode prog_1_method_8_code 28 = .ok (.aload_n 0, 1) := by decide +kernel
theorem d_tb_as_29 : decode prog_1_method_8_code 29 = .ok (.getfield 19, 3) := by decide +kernel
theorem d_tb_as_32 : decode prog_1_method_8_code 32 = .ok (.getfield 68, 3) := by decide +kernel
theorem d_tb_as_35 : decode prog_1_method_8_code 35 = .ok (.iload_n 1, 1) := by decide +kernel
theorem d_tb_as_36 : decode prog_1_method_8_code 36 = .ok (.aaload, 1) := by decide +kernel
theorem d_tb_as_37 : decode prog_1_method_8_code 37 = .ok (.iload_n 2, 1) := by decide +kernel
theorem d_tb_as_38 : decode prog_1_method_8_code 38 = .ok (.invokevirtual 112, 3) := by decide +kernel
theorem d_tb_as_41 : decode prog_1_method_8_code 41 = .ok (.ifCond .eq 7, 3) := by decide +kernel
theorem d_tb_as_44 : decode prog_1_method_8_code 44 = .ok (.iload_n 1, 1) := by decide +kernel
theorem d_tb_as_45 : decode prog_1_method_8_code 45 = .ok (.goto 6, 3) := by decide +kernel
theorem d_tb_as_48 : decode prog_1_method_8_code 48 = .ok (.sipush (-10001), 3) := by decide +kernel
theorem d_tb_as_51 : decode prog_1_method_8_code 51 = .ok (.ireturn, 1) := by decide +kernel
theorem d_tb_round_0 : decode prog_1_method_9_code 0 = .ok (.iload_n 1, 1) := by decide +kernel
theorem d_tb_round_1 : decode prog_1_method_9_code 1 = .ok (.iconst 0, 1) := by decide +kernel
theorem d_tb_round_2 : decode prog_1_method_9_code 2 = .ok (.bipush 64, 2) := by decide +kernel
theorem d_tb_round_4 : decode prog_1_method_9_code 4 = .ok (.invokestatic 33, 3) := by decide +kernel
theorem d_tb_round_7 : decode prog_1_method_9_code 7 = .ok (.ifCond .eq 10, 3) := by decide +kernel
theorem d_tb_round_10 : decode prog_1_method_9_code 10 = .ok (.iload_n 1, 1) := by decide +kernel
theorem d_tb_round_11 : decode prog_1_method_9_code 11 = .ok (.invokestatic 115, 3) := by decide +kernel
theorem d_tb_round_14 : decode prog_1_method_9_code 14 = .ok (.goto 6, 3) := by decide +kernel
theorem d_tb_round_17 : decode prog_1_method_9_code 17 = .ok (.sipush (-10102), 3) := by decide +kernel
theorem d_tb_round_20 : decode prog_1_method_9_code 20 = .ok (.ireturn, 1) := by decide +kernel
theorem d_tb_sum_0 : decode prog_1_method_10_code 0 = .ok (.aload_n 0, 1) := by decide +kernel
theorem d_tb_sum_1 : decode prog_1_method_10_code 1 = .ok (.getfield 19, 3) := by decide +kernel
theorem d_tb_sum_4 : decode prog_1_method_10_code 4 = .ok (.iload_n 1, 1) := by decide +kernel
theorem d_tb_sum_5 : decode prog_1_method_10_code 5 = .ok (.invokevirtual 64, 3) := by decide +kernel
theorem d_tb_sum_8 : decode prog_1_method_10_code 8 = .ok (.ifCond .ne 7, 3) := by decide +kernel
theorem d_tb_sum_11 : decode prog_1_method_10_code 11 = .ok (.sipush (-10101), 3) := by decide +kernel
theorem d_tb_sum_14 : decode prog_1_method_10_code 14 = .ok (.ireturn, 1) := by decide +kernel
theorem d_tb_sum_15 : decode prog_1_method_10_code 15 = .ok (.iload_n 2, 1) := by decide +kernel
theorem d_tb_sum_16 : decode prog_1_method_10_code 16 = .ok (.iconst 0, 1) := by decide +kernel
theorem d_tb_sum_17 : decode prog_1_method_10_code 17 = .ok (.sipush 1439, 3) := by decide +kernel
theorem d_tb_sum_20 : decode prog_1_method_10_code 20 = .ok (.invokestatic 33, 3) := by decide +kernel
theorem d_tb_sum_23 : decode prog_1_method_10_code 23 = .ok (.ifCond .eq 19, 3) := by decide +kernel
theorem d_tb_sum_26 : decode prog_1_method_10_code 26 = .ok (.aload_n 0, 1) := by decide +kernel
theorem d_tb_sum_27 : decode prog_1_method_10_code 27 = .ok (.getfield 19, 3) := by decide +kernel
theorem d_tb_sum_30 : decode prog_1_method_10_code 30 = .ok (.getfield 68, 3) := by decide +kernel
theorem d_tb_sum_33 : decode prog_1_method_10_code 33 = .ok (.iload_n 1, 1) := by decide +kernel
theorem d_tb_sum_34 : decode prog_1_method_10_code 34 = .ok (.aaload, 1) := by decide +kernel
theorem d_tb_sum_35 : decode prog_1_method_10_code 35 = .ok (.iload_n 2, 1) := by decide +kernel
theorem d_tb_sum_36 : decode prog_1_method_10_code 36 = .ok (.invokevirtual 118, 3) := by decide +kernel
theorem d_tb_sum_39 : decode prog_1_method_10_code 39 = .ok (.goto 6, 3) := by decide +kernel
theorem d_tb_sum_42 : decode prog_1_method_10_code 42 = .ok (.sipush (-10102), 3) := by decide +kernel
theorem d_tb_sum_45 : decode prog_1_method_10_code 45 = .ok (.ireturn, 1) := by decide +kernel
theorem d_tb_height_0 : decode prog_1_method_11_code 0 = .ok (.aload_n 0, 1) := by decide +kernel
theorem d_tb_height_1 : decode prog_1_method_11_code 1 = .ok (.getfield 19, 3) := by decide +kernel
theorem d_tb_height_4 : decode prog_1_method_11_code 4 = .ok (.iload_n 1, 1) := by decide +kernel
theorem d_tb_height_5 : decode prog_1_method_11_code 5 = .ok (.invokevirtual 64, 3) := by decide +kernel
theorem d_tb_height_8 : decode prog_1_method_11_code 8 = .ok (.ifCond .ne 7, 3) := by decide +kernel
theorem d_tb_height_11 : decode prog_1_method_11_code 11 = .ok (.sipush (-10101), 3) := by decide +kernel
theorem d_tb_height_14 : decode prog_1_method_11_code 14 = .ok (.ireturn, 1) := by decide +kernel
theorem d_tb_height_15 : decode prog_1_method_11_code 15 = .ok (.iload_n 2, 1) := by decide +kernel
theorem d_tb_height_16 : decode prog_1_method_11_code 16 = .ok (.iconst 0, 1) := by decide +kernel
theorem d_tb_height_17 : decode prog_1_method_11_code 17 = .ok (.sipush 1439, 3) := by decide +kernel
theorem d_tb_height_20 : decode prog_1_method_11_code 20 = .ok (.invokestatic 33, 3) := by decide +kernel
theorem d_tb_height_23 : decode prog_1_method_11_code 23 = .ok (.ifCond .eq 15, 3) := by decide +kernel
theorem d_tb_height_26 : decode prog_1_method_11_code 26 = .ok (.aload_n 0, 1) := by decide +kernel
theorem d_tb_height_27 : decode prog_1_method_11_code 27 = .ok (.getfield 19, 3) := by decide +kernel
theorem d_tb_height_30 : decode prog_1_method_11_code 30 = .ok (.iload_n 1, 1) := by decide +kernel
theorem d_tb_height_31 : decode prog_1_method_11_code 31 = .ok (.iload_n 2, 1) := by decide +kernel
theorem d_tb_height_32 : decode prog_1_method_11_code 32 = .ok (.invokevirtual 121, 3) := by decide +kernel
theorem d_tb_height_35 : decode prog_1_method_11_code 35 = .ok (.goto 6, 3) := by decide +kernel
theorem d_tb_height_38 : decode prog_1_method_11_code 38 = .ok (.sipush (-10102), 3) := by decide +kernel
theorem d_tb_height_41 : decode prog_1_method_11_code 41 = .ok (.ireturn, 1) := by decide +kernel
theorem d_tb_tide_0 : decode prog_1_method_12_code 0 = .ok (.aload_n 0, 1) := by decide +kernel
theorem d_tb_tide_1 : decode prog_1_method_12_code 1 = .ok (.getfield 19, 3) := by decide +kernel
theorem d_tb_tide_4 : decode prog_1_method_12_code 4 = .ok (.iload_n 1, 1) := by decide +kernel
theorem d_tb_tide_5 : decode prog_1_method_12_code 5 = .ok (.invokevirtual 64, 3) := by decide +kernel
theorem d_tb_tide_8 : decode prog_1_method_12_code 8 = .ok (.ifCond .ne 7, 3) := by decide +kernel
theorem d_tb_tide_11 : decode prog_1_method_12_code 11 = .ok (.sipush (-10101), 3) := by decide +kernel
theorem d_tb_tide_14 : decode prog_1_method_12_code 14 = .ok (.ireturn, 1) := by decide +kernel
theorem d_tb_tide_15 : decode prog_1_method_12_code 15 = .ok (.iload_n 2, 1) := by decide +kernel
theorem d_tb_tide_16 : decode prog_1_method_12_code 16 = .ok (.iconst 0, 1) := by decide +kernel
theorem d_tb_tide_17 : decode prog_1_method_12_code 17 = .ok (.bipush 9, 2) := by decide +kernel
theorem d_tb_tide_19 : decode prog_1_method_12_code 19 = .ok (.invokestatic 33, 3) := by decide +kernel
theorem d_tb_tide_22 : decode prog_1_method_12_code 22 = .ok (.ifCond .ne 7, 3) := by decide +kernel
theorem d_tb_tide_25 : decode prog_1_method_12_code 25 = .ok (.sipush (-10102), 3) := by decide +kernel
theorem d_tb_tide_28 : decode prog_1_method_12_code 28 = .ok (.ireturn, 1) := by decide +kernel
theorem d_tb_tide_29 : decode prog_1_method_12_code 29 = .ok (.iload_n 2, 1) := by decide +kernel
theorem d_tb_tide_30 : decode prog_1_method_12_code 30 = .ok (.sipush 144, 3) := by decide +kernel
theorem d_tb_tide_33 : decode prog_1_method_12_code 33 = .ok (.imul, 1) := by decide +kernel
theorem d_tb_tide_34 : decode prog_1_method_12_code 34 = .ok (.iconst 1, 1) := by decide +kernel
theorem d_tb_tide_35 : decode prog_1_method_12_code 35 = .ok (.isub, 1) := by decide +kernel
theorem d_tb_tide_36 : decode prog_1_method_12_code 36 = .ok (.istore 5, 2) := by decide +kernel
theorem d_tb_tide_38 : decode prog_1_method_12_code 38 = .ok (.aload_n 0, 1) := by decide +kernel
theorem d_tb_tide_39 : decode prog_1_method_12_code 39 = .ok (.getfield 19, 3) := by decide +kernel
theorem d_tb_tide_42 : decode prog_1_method_12_code 42 = .ok (.aload_n 0, 1) := by decide +kernel
theorem d_tb_tide_43 : decode prog_1_method_12_code 43 = .ok (.getfield 26, 3) := by decide +kernel
theorem d_tb_tide_46 : decode prog_1_method_12_code 46 = .ok (.iload_n 1, 1) := by decide +kernel
theorem d_tb_tide_47 : decode prog_1_method_12_code 47 = .ok (.iload 5, 2) := by decide +kernel
theorem d_tb_tide_49 : decode prog_1_method_12_code 49 = .ok (.sipush 289, 3) := by decide +kernel
theorem d_tb_tide_52 : decode prog_1_method_12_code 52 = .ok (.invokevirtual 125, 3) := by decide +kernel
theorem d_tb_tide_55 : decode prog_1_method_12_code 55 = .ok (.aload_n 0, 1) := by decide +kernel
theorem d_tb_tide_56 : decode prog_1_method_12_code 56 = .ok (.iload_n 3, 1) := by decide +kernel
theorem d_tb_tide_57 : decode prog_1_method_12_code 57 = .ok (.invokevirtual 129, 3) := by decide +kernel
theorem d_tb_tide_60 : decode prog_1_method_12_code 60 = .ok (.istore 6, 2) := by decide +kernel
theorem d_tb_tide_62 : decode prog_1_method_12_code 62 = .ok (.iload 6, 2) := by decide +kernel
theorem d_tb_tide_64 : decode prog_1_method_12_code 64 = .ok (.sipush (-10001), 3) := by decide +kernel
theorem d_tb_tide_67 : decode prog_1_method_12_code 67 = .ok (.if_icmp .ne 7, 3) := by decide +kernel
theorem d_tb_tide_70 : decode prog_1_method_12_code 70 = .ok (.sipush (-10101), 3) := by decide +kernel
theorem d_tb_tide_73 : decode prog_1_method_12_code 73 = .ok (.ireturn, 1) := by decide +kernel
theorem d_tb_tide_74 : decode prog_1_method_12_code 74 = .ok (.iload 4, 2) := by decide +kernel
theorem d_tb_tide_76 : decode prog_1_method_12_code 76 = .ok (.tableswitch 57 0 2 #[28, 34, 49], 28) := by decide +kernel
theorem d_tb_tide_104 : decode prog_1_method_12_code 104 = .ok (.iload 5, 2) := by decide +kernel
theorem d_tb_tide_106 : decode prog_1_method_12_code 106 = .ok (.iload 6, 2) := by decide +kernel
theorem d_tb_tide_108 : decode prog_1_method_12_code 108 = .ok (.iadd, 1) := by decide +kernel
theorem d_tb_tide_109 : decode prog_1_method_12_code 109 = .ok (.ireturn, 1) := by decide +kernel
theorem d_tb_tide_110 : decode prog_1_method_12_code 110 = .ok (.aload_n 0, 1) := by decide +kernel
theorem d_tb_tide_111 : decode prog_1_method_12_code 111 = .ok (.iload 6, 2) := by decide +kernel
theorem d_tb_tide_113 : decode prog_1_method_12_code 113 = .ok (.invokevirtual 132, 3) := by decide +kernel
theorem d_tb_tide_116 : decode prog_1_method_12_code 116 = .ok (.ifCond .le 7, 3) := by decide +kernel
theorem d_tb_tide_119 : decode prog_1_method_12_code 119 = .ok (.iconst 1, 1) := by decide +kernel
theorem d_tb_tide_120 : decode prog_1_method_12_code 120 = .ok (.goto 4, 3) := by decide +kernel
theorem d_tb_tide_123 : decode prog_1_method_12_code 123 = .ok (.iconst 0, 1) := by decide +kernel
theorem d_tb_tide_124 : decode prog_1_method_12_code 124 = .ok (.ireturn, 1) := by decide +kernel
theorem d_tb_tide_125 : decode prog_1_method_12_code 125 = .ok (.aload_n 0, 1) := by decide +kernel
theorem d_tb_tide_126 : decode prog_1_method_12_code 126 = .ok (.getfield 26, 3) := by decide +kernel
theorem d_tb_tide_129 : decode prog_1_method_12_code 129 = .ok (.iload 6, 2) := by decide +kernel
theorem d_tb_tide_131 : decode prog_1_method_12_code 131 = .ok (.iaload, 1) := by decide +kernel
theorem d_tb_tide_132 : decode prog_1_method_12_code 132 = .ok (.ireturn, 1) := by decide +kernel
theorem d_tb_tide_133 : decode prog_1_method_12_code 133 = .ok (.sipush (-10102), 3) := by decide +kernel
theorem d_tb_tide_136 : decode prog_1_method_12_code 136 = .ok (.ireturn, 1) := by decide +kernel
theorem d_tb_gate_0 : decode prog_1_method_13_code 0 = .ok (.aload_n 0, 1) := by decide +kernel
theorem d_tb_gate_1 : decode prog_1_method_13_code 1 = .ok (.getfield 19, 3) := by decide +kernel
theorem d_tb_gate_4 : decode prog_1_method_13_code 4 = .ok (.iload_n 1, 1) := by decide +kernel
theorem d_tb_gate_5 : decode prog_1_method_13_code 5 = .ok (.invokevirtual 64, 3) := by decide +kernel
theorem d_tb_gate_8 : decode prog_1_method_13_code 8 = .ok (.ifCond .ne 7, 3) := by decide +kernel
theorem d_tb_gate_11 : decode prog_1_method_13_code 11 = .ok (.sipush (-10101), 3) := by decide +kernel
theorem d_tb_gate_14 : decode prog_1_method_13_code 14 = .ok (.ireturn, 1) := by decide +kernel
theorem d_tb_gate_15 : decode prog_1_method_13_code 15 = .ok (.iload_n 2, 1) := by decide +kernel
theorem d_tb_gate_16 : decode prog_1_method_13_code 16 = .ok (.iconst 0, 1) := by decide +kernel
theorem d_tb_gate_17 : decode prog_1_method_13_code 17 = .ok (.bipush 9, 2) := by decide +kernel
theorem d_tb_gate_19 : decode prog_1_method_13_code 19 = .ok (.invokestatic 33, 3) := by decide +kernel
theorem d_tb_gate_22 : decode prog_1_method_13_code 22 = .ok (.ifCond .eq 16, 3) := by decide +kernel
theorem d_tb_gate_25 : decode prog_1_method_13_code 25 = .ok (.iload_n 3, 1) := by decide +kernel
theorem d_tb_gate_26 : decode prog_1_method_13_code 26 = .ok (.sipush (-2000), 3) := by decide +kernel
theorem d_tb_gate_29 : decode prog_1_method_13_code 29 = .ok (.sipush 4000, 3) := by decide +kernel
theorem d_tb_gate_32 : decode prog_1_method_13_code 32 = .ok (.invokestatic 33, 3) := by decide +kernel
theorem d_tb_gate_35 : decode prog_1_method_13_code 35 = .ok (.ifCond .ne 7, 3) := by decide +kernel
theorem d_tb_gate_38 : decode prog_1_method_13_code 38 = .ok (.sipush (-10102), 3) := by decide +kernel
theorem d_tb_gate_41 : decode prog_1_method_13_code 41 = .ok (.ireturn, 1) := by decide +kernel
theorem d_tb_gate_42 : decode prog_1_method_13_code 42 = .ok (.aload_n 0, 1) := by decide +kernel
theorem d_tb_gate_43 : decode prog_1_method_13_code 43 = .ok (.getfield 19, 3) := by decide +kernel
theorem d_tb_gate_46 : decode prog_1_method_13_code 46 = .ok (.aload_n 0, 1) := by decide +kernel
theorem d_tb_gate_47 : decode prog_1_method_13_code 47 = .ok (.getfield 26, 3) := by decide +kernel
theorem d_tb_gate_50 : decode prog_1_method_13_code 50 = .ok (.iload_n 1, 1) := by decide +kernel
theorem d_tb_gate_51 : decode prog_1_method_13_code 51 = .ok (.iload_n 2, 1) := by decide +kernel
