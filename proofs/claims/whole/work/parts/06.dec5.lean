theorem d_mo_howMany_48 : decode prog_7_method_73_code 48 = .ok (.ireturn, 1) := by decide +kernel
theorem d_mo_howMany_49 : decode prog_7_method_73_code 49 = .ok (.aload_n 0, 1) := by decide +kernel
theorem d_mo_howMany_50 : decode prog_7_method_73_code 50 = .ok (.iload_n 1, 1) := by decide +kernel
theorem d_mo_howMany_51 : decode prog_7_method_73_code 51 = .ok (.invokevirtual 267, 3) := by decide +kernel
theorem d_mo_howMany_54 : decode prog_7_method_73_code 54 = .ok (.ireturn, 1) := by decide +kernel
theorem d_mo_howMany_55 : decode prog_7_method_73_code 55 = .ok (.aload_n 0, 1) := by decide +kernel
theorem d_mo_howMany_56 : decode prog_7_method_73_code 56 = .ok (.invokevirtual 270, 3) := by decide +kernel
theorem d_mo_howMany_59 : decode prog_7_method_73_code 59 = .ok (.ireturn, 1) := by decide +kernel
theorem d_mo_howMany_60 : decode prog_7_method_73_code 60 = .ok (.aload_n 0, 1) := by decide +kernel
theorem d_mo_howMany_61 : decode prog_7_method_73_code 61 = .ok (.getfield 144, 3) := by decide +kernel
theorem d_mo_howMany_64 : decode prog_7_method_73_code 64 = .ok (.ireturn, 1) := by decide +kernel
theorem d_mo_howMany_65 : decode prog_7_method_73_code 65 = .ok (.aload_n 0, 1) := by decide +kernel
theorem d_mo_howMany_66 : decode prog_7_method_73_code 66 = .ok (.getfield 97, 3) := by decide +kernel
theorem d_mo_howMany_69 : decode prog_7_method_73_code 69 = .ok (.ireturn, 1) := by decide +kernel
theorem d_mo_howMany_70 : decode prog_7_method_73_code 70 = .ok (.aload_n 0, 1) := by decide +kernel
theorem d_mo_howMany_71 : decode prog_7_method_73_code 71 = .ok (.getfield 141, 3) := by decide +kernel
theorem d_mo_howMany_74 : decode prog_7_method_73_code 74 = .ok (.ireturn, 1) := by decide +kernel
theorem d_mo_howMany_75 : decode prog_7_method_73_code 75 = .ok (.sipush (-10102), 3) := by decide +kernel
theorem d_mo_howMany_78 : decode prog_7_method_73_code 78 = .ok (.ireturn, 1) := by decide +kernel
theorem d_mo_count_0 : decode prog_7_method_74_code 0 = .ok (.aload_n 0, 1) := by decide +kernel
theorem d_mo_count_1 : decode prog_7_method_74_code 1 = .ok (.iload_n 1, 1) := by decide +kernel
theorem d_mo_count_2 : decode prog_7_method_74_code 2 = .ok (.invokevirtual 273, 3) := by decide +kernel
theorem d_mo_count_5 : decode prog_7_method_74_code 5 = .ok (.ireturn, 1) := by decide +kernel
theorem d_mo_mix_0 : decode prog_7_method_75_code 0 = .ok (.aload_n 0, 1) := by decide +kernel
theorem d_mo_mix_1 : decode prog_7_method_75_code 1 = .ok (.ldc2_w 276, 3) := by decide +kernel
theorem d_mo_mix_4 : decode prog_7_method_75_code 4 = .ok (.aload_n 0, 1) := by decide +kernel
theorem d_mo_mix_5 : decode prog_7_method_75_code 5 = .ok (.getfield 278, 3) := by decide +kernel
theorem d_mo_mix_8 : decode prog_7_method_75_code 8 = .ok (.lmul, 1) := by decide +kernel
theorem d_mo_mix_9 : decode prog_7_method_75_code 9 = .ok (.lload_n 1, 1) := by decide +kernel
theorem d_mo_mix_10 : decode prog_7_method_75_code 10 = .ok (.ladd, 1) := by decide +kernel
theorem d_mo_mix_11 : decode prog_7_method_75_code 11 = .ok (.putfield 278, 3) := by decide +kernel
theorem d_mo_mix_14 : decode prog_7_method_75_code 14 = .ok (.return_, 1) := by decide +kernel
theorem d_mo_tickBy_0 : decode prog_7_method_76_code 0 = .ok (.iload_n 0, 1) := by decide +kernel
theorem d_mo_tickBy_1 : decode prog_7_method_76_code 1 = .ok (.tableswitch 51 0 4 #[35, 37, 40, 43, 47], 35) := by decide +kernel
theorem d_mo_tickBy_36 : decode prog_7_method_76_code 36 = .ok (.iconst 0, 1) := by decide +kernel
theorem d_mo_tickBy_37 : decode prog_7_method_76_code 37 = .ok (.ireturn, 1) := by decide +kernel
theorem d_mo_tickBy_38 : decode prog_7_method_76_code 38 = .ok (.bipush 7, 2) := by decide +kernel
theorem d_mo_tickBy_40 : decode prog_7_method_76_code 40 = .ok (.ireturn, 1) := by decide +kernel
theorem d_mo_tickBy_41 : decode prog_7_method_76_code 41 = .ok (.bipush 50, 2) := by decide +kernel
theorem d_mo_tickBy_43 : decode prog_7_method_76_code 43 = .ok (.ireturn, 1) := by decide +kernel
theorem d_mo_tickBy_44 : decode prog_7_method_76_code 44 = .ok (.sipush 144, 3) := by decide +kernel
theorem d_mo_tickBy_47 : decode prog_7_method_76_code 47 = .ok (.ireturn, 1) := by decide +kernel
theorem d_mo_tickBy_48 : decode prog_7_method_76_code 48 = .ok (.sipush 400, 3) := by decide +kernel
theorem d_mo_tickBy_51 : decode prog_7_method_76_code 51 = .ok (.ireturn, 1) := by decide +kernel
theorem d_mo_tickBy_52 : decode prog_7_method_76_code 52 = .ok (.sipush 1439, 3) := by decide +kernel
theorem d_mo_tickBy_55 : decode prog_7_method_76_code 55 = .ok (.ireturn, 1) := by decide +kernel
theorem d_mo_digest_0 : decode prog_7_method_77_code 0 = .ok (.aload_n 0, 1) := by decide +kernel
theorem d_mo_digest_1 : decode prog_7_method_77_code 1 = .ok (.ldc2_w 281, 3) := by decide +kernel
theorem d_mo_digest_4 : decode prog_7_method_77_code 4 = .ok (.putfield 278, 3) := by decide +kernel
theorem d_mo_digest_7 : decode prog_7_method_77_code 7 = .ok (.iconst 0, 1) := by decide +kernel
theorem d_mo_digest_8 : decode prog_7_method_77_code 8 = .ok (.istore_n 1, 1) := by decide +kernel
theorem d_mo_digest_9 : decode prog_7_method_77_code 9 = .ok (.iload_n 1, 1) := by decide +kernel
theorem d_mo_digest_10 : decode prog_7_method_77_code 10 = .ok (.aload_n 0, 1) := by decide +kernel
theorem d_mo_digest_11 : decode prog_7_method_77_code 11 = .ok (.getfield 138, 3) := by decide +kernel
theorem d_mo_digest_14 : decode prog_7_method_77_code 14 = .ok (.if_icmp .ge 112, 3) := by decide +kernel
theorem d_mo_digest_17 : decode prog_7_method_77_code 17 = .ok (.iconst 0, 1) := by decide +kernel
theorem d_mo_digest_18 : decode prog_7_method_77_code 18 = .ok (.istore_n 2, 1) := by decide +kernel
theorem d_mo_digest_19 : decode prog_7_method_77_code 19 = .ok (.iload_n 2, 1) := by decide +kernel
theorem d_mo_digest_20 : decode prog_7_method_77_code 20 = .ok (.bipush 7, 2) := by decide +kernel
theorem d_mo_digest_22 : decode prog_7_method_77_code 22 = .ok (.if_icmp .ge 20, 3) := by decide +kernel
theorem d_mo_digest_25 : decode prog_7_method_77_code 25 = .ok (.aload_n 0, 1) := by decide +kernel
theorem d_mo_digest_26 : decode prog_7_method_77_code 26 = .ok (.aload_n 0, 1) := by decide +kernel
theorem d_mo_digest_27 : decode prog_7_method_77_code 27 = .ok (.iload_n 1, 1) := by decide +kernel
theorem d_mo_digest_28 : decode prog_7_method_77_code 28 = .ok (.iload_n 2, 1) := by decide +kernel
theorem d_mo_digest_29 : decode prog_7_method_77_code 29 = .ok (.invokevirtual 156, 3) := by decide +kernel
theorem d_mo_digest_32 : decode prog_7_method_77_code 32 = .ok (.i2l, 1) := by decide +kernel
theorem d_mo_digest_33 : decode prog_7_method_77_code 33 = .ok (.invokevirtual 283, 3) := by decide +kernel
theorem d_mo_digest_36 : decode prog_7_method_77_code 36 = .ok (.iinc 2 1, 3) := by decide +kernel
theorem d_mo_digest_39 : decode prog_7_method_77_code 39 = .ok (.goto (-20), 3) := by decide +kernel
theorem d_mo_digest_42 : decode prog_7_method_77_code 42 = .ok (.iconst 0, 1) := by decide +kernel
theorem d_mo_digest_43 : decode prog_7_method_77_code 43 = .ok (.istore_n 2, 1) := by decide +kernel
theorem d_mo_digest_44 : decode prog_7_method_77_code 44 = .ok (.iload_n 2, 1) := by decide +kernel
theorem d_mo_digest_45 : decode prog_7_method_77_code 45 = .ok (.iconst 3, 1) := by decide +kernel
theorem d_mo_digest_46 : decode prog_7_method_77_code 46 = .ok (.aload_n 0, 1) := by decide +kernel
theorem d_mo_digest_47 : decode prog_7_method_77_code 47 = .ok (.getfield 22, 3) := by decide +kernel
theorem d_mo_digest_50 : decode prog_7_method_77_code 50 = .ok (.iload_n 1, 1) := by decide +kernel
theorem d_mo_digest_51 : decode prog_7_method_77_code 51 = .ok (.iaload, 1) := by decide +kernel
theorem d_mo_digest_52 : decode prog_7_method_77_code 52 = .ok (.imul, 1) := by decide +kernel
theorem d_mo_digest_53 : decode prog_7_method_77_code 53 = .ok (.if_icmp .ge 25, 3) := by decide +kernel
theorem d_mo_digest_56 : decode prog_7_method_77_code 56 = .ok (.aload_n 0, 1) := by decide +kernel
theorem d_mo_digest_57 : decode prog_7_method_77_code 57 = .ok (.aload_n 0, 1) := by decide +kernel
theorem d_mo_digest_58 : decode prog_7_method_77_code 58 = .ok (.getfield 25, 3) := by decide +kernel
theorem d_mo_digest_61 : decode prog_7_method_77_code 61 = .ok (.bipush 9, 2) := by decide +kernel
theorem d_mo_digest_63 : decode prog_7_method_77_code 63 = .ok (.iload_n 1, 1) := by decide +kernel
theorem d_mo_digest_64 : decode prog_7_method_77_code 64 = .ok (.imul, 1) := by decide +kernel
theorem d_mo_digest_65 : decode prog_7_method_77_code 65 = .ok (.iload_n 2, 1) := by decide +kernel
theorem d_mo_digest_66 : decode prog_7_method_77_code 66 = .ok (.iadd, 1) := by decide +kernel
theorem d_mo_digest_67 : decode prog_7_method_77_code 67 = .ok (.iaload, 1) := by decide +kernel
theorem d_mo_digest_68 : decode prog_7_method_77_code 68 = .ok (.i2l, 1) := by decide +kernel
theorem d_mo_digest_69 : decode prog_7_method_77_code 69 = .ok (.invokevirtual 283, 3) := by decide +kernel
theorem d_mo_digest_72 : decode prog_7_method_77_code 72 = .ok (.iinc 2 1, 3) := by decide +kernel
theorem d_mo_digest_75 : decode prog_7_method_77_code 75 = .ok (.goto (-31), 3) := by decide +kernel
theorem d_mo_digest_78 : decode prog_7_method_77_code 78 = .ok (.iconst 0, 1) := by decide +kernel
theorem d_mo_digest_79 : decode prog_7_method_77_code 79 = .ok (.istore_n 2, 1) := by decide +kernel
theorem d_mo_digest_80 : decode prog_7_method_77_code 80 = .ok (.iload_n 2, 1) := by decide +kernel
theorem d_mo_digest_81 : decode prog_7_method_77_code 81 = .ok (.bipush 6, 2) := by decide +kernel
theorem d_mo_digest_83 : decode prog_7_method_77_code 83 = .ok (.if_icmp .ge 37, 3) := by decide +kernel
theorem d_mo_digest_86 : decode prog_7_method_77_code 86 = .ok (.aload_n 0, 1) := by decide +kernel
theorem d_mo_digest_87 : decode prog_7_method_77_code 87 = .ok (.aload_n 0, 1) := by decide +kernel
theorem d_mo_digest_88 : decode prog_7_method_77_code 88 = .ok (.iload_n 1, 1) := by decide +kernel
theorem d_mo_digest_89 : decode prog_7_method_77_code 89 = .ok (.iload_n 2, 1) := by decide +kernel
theorem d_mo_digest_90 : decode prog_7_method_77_code 90 = .ok (.invokestatic 287, 3) := by decide +kernel
theorem d_mo_digest_93 : decode prog_7_method_77_code 93 = .ok (.invokevirtual 173, 3) := by decide +kernel
theorem d_mo_digest_96 : decode prog_7_method_77_code 96 = .ok (.i2l, 1) := by decide +kernel
theorem d_mo_digest_97 : decode prog_7_method_77_code 97 = .ok (.invokevirtual 283, 3) := by decide +kernel
theorem d_mo_digest_100 : decode prog_7_method_77_code 100 = .ok (.aload_n 0, 1) := by decide +kernel
theorem d_mo_digest_101 : decode prog_7_method_77_code 101 = .ok (.aload_n 0, 1) := by decide +kernel
theorem d_mo_digest_102 : decode prog_7_method_77_code 102 = .ok (.iload_n 1, 1) := by decide +kernel
theorem d_mo_digest_103 : decode prog_7_method_77_code 103 = .ok (.iload_n 2, 1) := by decide +kernel
theorem d_mo_digest_104 : decode prog_7_method_77_code 104 = .ok (.invokestatic 287, 3) := by decide +kernel
theorem d_mo_digest_107 : decode prog_7_method_77_code 107 = .ok (.invokevirtual 185, 3) := by decide +kernel
theorem d_mo_digest_110 : decode prog_7_method_77_code 110 = .ok (.i2l, 1) := by decide +kernel
theorem d_mo_digest_111 : decode prog_7_method_77_code 111 = .ok (.invokevirtual 283, 3) := by decide +kernel
theorem d_mo_digest_114 : decode prog_7_method_77_code 114 = .ok (.iinc 2 1, 3) := by decide +kernel
theorem d_mo_digest_117 : decode prog_7_method_77_code 117 = .ok (.goto (-37), 3) := by decide +kernel
theorem d_mo_digest_120 : decode prog_7_method_77_code 120 = .ok (.iinc 1 1, 3) := by decide +kernel
theorem d_mo_digest_123 : decode prog_7_method_77_code 123 = .ok (.goto (-114), 3) := by decide +kernel
theorem d_mo_digest_126 : decode prog_7_method_77_code 126 = .ok (.iconst 0, 1) := by decide +kernel
theorem d_mo_digest_127 : decode prog_7_method_77_code 127 = .ok (.istore_n 1, 1) := by decide +kernel
theorem d_mo_digest_128 : decode prog_7_method_77_code 128 = .ok (.iload_n 1, 1) := by decide +kernel
theorem d_mo_digest_129 : decode prog_7_method_77_code 129 = .ok (.aload_n 0, 1) := by decide +kernel
theorem d_mo_digest_130 : decode prog_7_method_77_code 130 = .ok (.getfield 97, 3) := by decide +kernel
theorem d_mo_digest_133 : decode prog_7_method_77_code 133 = .ok (.if_icmp .ge 20, 3) := by decide +kernel
theorem d_mo_digest_136 : decode prog_7_method_77_code 136 = .ok (.aload_n 0, 1) := by decide +kernel
theorem d_mo_digest_137 : decode prog_7_method_77_code 137 = .ok (.aload_n 0, 1) := by decide +kernel
theorem d_mo_digest_138 : decode prog_7_method_77_code 138 = .ok (.getfield 40, 3) := by decide +kernel
theorem d_mo_digest_141 : decode prog_7_method_77_code 141 = .ok (.iload_n 1, 1) := by decide +kernel
theorem d_mo_digest_142 : decode prog_7_method_77_code 142 = .ok (.baload, 1) := by decide +kernel
theorem d_mo_digest_143 : decode prog_7_method_77_code 143 = .ok (.i2l, 1) := by decide +kernel
theorem d_mo_digest_144 : decode prog_7_method_77_code 144 = .ok (.invokevirtual 283, 3) := by decide +kernel
theorem d_mo_digest_147 : decode prog_7_method_77_code 147 = .ok (.iinc 1 1, 3) := by decide +kernel
theorem d_mo_digest_150 : decode prog_7_method_77_code 150 = .ok (.goto (-22), 3) := by decide +kernel
theorem d_mo_digest_153 : decode prog_7_method_77_code 153 = .ok (.iconst 0, 1) := by decide +kernel
theorem d_mo_digest_154 : decode prog_7_method_77_code 154 = .ok (.istore_n 1, 1) := by decide +kernel
theorem d_mo_digest_155 : decode prog_7_method_77_code 155 = .ok (.iload_n 1, 1) := by decide +kernel
theorem d_mo_digest_156 : decode prog_7_method_77_code 156 = .ok (.bipush 7, 2) := by decide +kernel
theorem d_mo_digest_158 : decode prog_7_method_77_code 158 = .ok (.if_icmp .ge 19, 3) := by decide +kernel
theorem d_mo_digest_161 : decode prog_7_method_77_code 161 = .ok (.aload_n 0, 1) := by decide +kernel
theorem d_mo_digest_162 : decode prog_7_method_77_code 162 = .ok (.aload_n 0, 1) := by decide +kernel
theorem d_mo_digest_163 : decode prog_7_method_77_code 163 = .ok (.iload_n 1, 1) := by decide +kernel
theorem d_mo_digest_164 : decode prog_7_method_77_code 164 = .ok (.invokevirtual 273, 3) := by decide +kernel
theorem d_mo_digest_167 : decode prog_7_method_77_code 167 = .ok (.i2l, 1) := by decide +kernel
theorem d_mo_digest_168 : decode prog_7_method_77_code 168 = .ok (.invokevirtual 283, 3) := by decide +kernel
theorem d_mo_digest_171 : decode prog_7_method_77_code 171 = .ok (.iinc 1 1, 3) := by decide +kernel
theorem d_mo_digest_174 : decode prog_7_method_77_code 174 = .ok (.goto (-19), 3) := by decide +kernel
theorem d_mo_digest_177 : decode prog_7_method_77_code 177 = .ok (.aload_n 0, 1) := by decide +kernel
theorem d_mo_digest_178 : decode prog_7_method_77_code 178 = .ok (.getfield 278, 3) := by decide +kernel
theorem d_mo_digest_181 : decode prog_7_method_77_code 181 = .ok (.lreturn, 1) := by decide +kernel
theorem d_in_compare_0 : decode prog_9_method_40_code 0 = .ok (.iload_n 0, 1) := by decide +kernel
theorem d_in_compare_1 : decode prog_9_method_40_code 1 = .ok (.iload_n 1, 1) := by decide +kernel
theorem d_in_compare_2 : decode prog_9_method_40_code 2 = .ok (.if_icmp .ge 7, 3) := by decide +kernel
theorem d_in_compare_5 : decode prog_9_method_40_code 5 = .ok (.iconst (-1), 1) := by decide +kernel
theorem d_in_compare_6 : decode prog_9_method_40_code 6 = .ok (.goto 13, 3) := by decide +kernel
theorem d_in_compare_9 : decode prog_9_method_40_code 9 = .ok (.iload_n 0, 1) := by decide +kernel
theorem d_in_compare_10 : decode prog_9_method_40_code 10 = .ok (.iload_n 1, 1) := by decide +kernel
theorem d_in_compare_11 : decode prog_9_method_40_code 11 = .ok (.if_icmp .ne 7, 3) := by decide +kernel
theorem d_in_compare_14 : decode prog_9_method_40_code 14 = .ok (.iconst 0, 1) := by decide +kernel
theorem d_in_compare_15 : decode prog_9_method_40_code 15 = .ok (.goto 4, 3) := by decide +kernel
theorem d_in_compare_18 : decode prog_9_method_40_code 18 = .ok (.iconst 1, 1) := by decide +kernel
theorem d_in_compare_19 : decode prog_9_method_40_code 19 = .ok (.ireturn, 1) := by decide +kernel
theorem d_in_bitCount_0 : decode prog_9_method_49_code 0 = .ok (.iload_n 0, 1) := by decide +kernel
theorem d_in_bitCount_1 : decode prog_9_method_49_code 1 = .ok (.iload_n 0, 1) := by decide +kernel
theorem d_in_bitCount_2 : decode prog_9_method_49_code 2 = .ok (.iconst 1, 1) := by decide +kernel
theorem d_in_bitCount_3 : decode prog_9_method_49_code 3 = .ok (.iushr, 1) := by decide +kernel
theorem d_in_bitCount_4 : decode prog_9_method_49_code 4 = .ok (.ldc_w 265, 3) := by decide +kernel
theorem d_in_bitCount_7 : decode prog_9_method_49_code 7 = .ok (.iand, 1) := by decide +kernel
theorem d_in_bitCount_8 : decode prog_9_method_49_code 8 = .ok (.isub, 1) := by decide +kernel
theorem d_in_bitCount_9 : decode prog_9_method_49_code 9 = .ok (.istore_n 0, 1) := by decide +kernel
theorem d_in_bitCount_10 : decode prog_9_method_49_code 10 = .ok (.iload_n 0, 1) := by decide +kernel
theorem d_in_bitCount_11 : decode prog_9_method_49_code 11 = .ok (.ldc_w 266, 3) := by decide +kernel
theorem d_in_bitCount_14 : decode prog_9_method_49_code 14 = .ok (.iand, 1) := by decide +kernel
theorem d_in_bitCount_15 : decode prog_9_method_49_code 15 = .ok (.iload_n 0, 1) := by decide +kernel
theorem d_in_bitCount_16 : decode prog_9_method_49_code 16 = .ok (.iconst 2, 1) := by decide +kernel
theorem d_in_bitCount_17 : decode prog_9_method_49_code 17 = .ok (.iushr, 1) := by decide +kernel
theorem d_in_bitCount_18 : decode prog_9_method_49_code 18 = .ok (.ldc_w 266, 3) := by decide +kernel
theorem d_in_bitCount_21 : decode prog_9_method_49_code 21 = .ok (.iand, 1) := by decide +kernel
theorem d_in_bitCount_22 : decode prog_9_method_49_code 22 = .ok (.iadd, 1) := by decide +kernel
theorem d_in_bitCount_23 : decode prog_9_method_49_code 23 = .ok (.istore_n 0, 1) := by decide +kernel
theorem d_in_bitCount_24 : decode prog_9_method_49_code 24 = .ok (.iload_n 0, 1) := by decide +kernel
theorem d_in_bitCount_25 : decode prog_9_method_49_code 25 = .ok (.iload_n 0, 1) := by decide +kernel
theorem d_in_bitCount_26 : decode prog_9_method_49_code 26 = .ok (.iconst 4, 1) := by decide +kernel
theorem d_in_bitCount_27 : decode prog_9_method_49_code 27 = .ok (.iushr, 1) := by decide +kernel
theorem d_in_bitCount_28 : decode prog_9_method_49_code 28 = .ok (.iadd, 1) := by decide +kernel
theorem d_in_bitCount_29 : decode prog_9_method_49_code 29 = .ok (.ldc_w 267, 3) := by decide +kernel
theorem d_in_bitCount_32 : decode prog_9_method_49_code 32 = .ok (.iand, 1) := by decide +kernel
theorem d_in_bitCount_33 : decode prog_9_method_49_code 33 = .ok (.istore_n 0, 1) := by decide +kernel
theorem d_in_bitCount_34 : decode prog_9_method_49_code 34 = .ok (.iload_n 0, 1) := by decide +kernel
theorem d_in_bitCount_35 : decode prog_9_method_49_code 35 = .ok (.iload_n 0, 1) := by decide +kernel
theorem d_in_bitCount_36 : decode prog_9_method_49_code 36 = .ok (.bipush 8, 2) := by decide +kernel
theorem d_in_bitCount_38 : decode prog_9_method_49_code 38 = .ok (.iushr, 1) := by decide +kernel
theorem d_in_bitCount_39 : decode prog_9_method_49_code 39 = .ok (.iadd, 1) := by decide +kernel
theorem d_in_bitCount_40 : decode prog_9_method_49_code 40 = .ok (.istore_n 0, 1) := by decide +kernel
theorem d_in_bitCount_41 : decode prog_9_method_49_code 41 = .ok (.iload_n 0, 1) := by decide +kernel
theorem d_in_bitCount_42 : decode prog_9_method_49_code 42 = .ok (.iload_n 0, 1) := by decide +kernel
theorem d_in_bitCount_43 : decode prog_9_method_49_code 43 = .ok (.bipush 16, 2) := by decide +kernel
theorem d_in_bitCount_45 : decode prog_9_method_49_code 45 = .ok (.iushr, 1) := by decide +kernel
theorem d_in_bitCount_46 : decode prog_9_method_49_code 46 = .ok (.iadd, 1) := by decide +kernel
theorem d_in_bitCount_47 : decode prog_9_method_49_code 47 = .ok (.istore_n 0, 1) := by decide +kernel
theorem d_in_bitCount_48 : decode prog_9_method_49_code 48 = .ok (.iload_n 0, 1) := by decide +kernel
theorem d_in_bitCount_49 : decode prog_9_method_49_code 49 = .ok (.bipush 63, 2) := by decide +kernel
theorem d_in_bitCount_51 : decode prog_9_method_49_code 51 = .ok (.iand, 1) := by decide +kernel
theorem d_in_bitCount_52 : decode prog_9_method_49_code 52 = .ok (.ireturn, 1) := by decide +kernel
theorem d_ma_floorDiv_0 : decode prog_10_method_47_code 0 = .ok (.iload_n 0, 1) := by decide +kernel
theorem d_ma_floorDiv_1 : decode prog_10_method_47_code 1 = .ok (.iload_n 1, 1) := by decide +kernel
theorem d_ma_floorDiv_2 : decode prog_10_method_47_code 2 = .ok (.idiv, 1) := by decide +kernel
theorem d_ma_floorDiv_3 : decode prog_10_method_47_code 3 = .ok (.istore_n 2, 1) := by decide +kernel
theorem d_ma_floorDiv_4 : decode prog_10_method_47_code 4 = .ok (.iload_n 0, 1) := by decide +kernel
theorem d_ma_floorDiv_5 : decode prog_10_method_47_code 5 = .ok (.iload_n 1, 1) := by decide +kernel
theorem d_ma_floorDiv_6 : decode prog_10_method_47_code 6 = .ok (.ixor, 1) := by decide +kernel
theorem d_ma_floorDiv_7 : decode prog_10_method_47_code 7 = .ok (.ifCond .ge 14, 3) := by decide +kernel
theorem d_ma_floorDiv_10 : decode prog_10_method_47_code 10 = .ok (.iload_n 2, 1) := by decide +kernel
theorem d_ma_floorDiv_11 : decode prog_10_method_47_code 11 = .ok (.iload_n 1, 1) := by decide +kernel
theorem d_ma_floorDiv_12 : decode prog_10_method_47_code 12 = .ok (.imul, 1) := by decide +kernel
theorem d_ma_floorDiv_13 : decode prog_10_method_47_code 13 = .ok (.iload_n 0, 1) := by decide +kernel
theorem d_ma_floorDiv_14 : decode prog_10_method_47_code 14 = .ok (.if_icmp .eq 7, 3) := by decide +kernel
theorem d_ma_floorDiv_17 : decode prog_10_method_47_code 17 = .ok (.iload_n 2, 1) := by decide +kernel
theorem d_ma_floorDiv_18 : decode prog_10_method_47_code 18 = .ok (.iconst 1, 1) := by decide +kernel
theorem d_ma_floorDiv_19 : decode prog_10_method_47_code 19 = .ok (.isub, 1) := by decide +kernel
theorem d_ma_floorDiv_20 : decode prog_10_method_47_code 20 = .ok (.ireturn, 1) := by decide +kernel
theorem d_ma_floorDiv_21 : decode prog_10_method_47_code 21 = .ok (.iload_n 2, 1) := by decide +kernel
theorem d_ma_floorDiv_22 : decode prog_10_method_47_code 22 = .ok (.ireturn, 1) := by decide +kernel
theorem d_ma_max_0 : decode prog_10_method_65_code 0 = .ok (.iload_n 0, 1) := by decide +kernel
theorem d_ma_max_1 : decode prog_10_method_65_code 1 = .ok (.iload_n 1, 1) := by decide +kernel
theorem d_ma_max_2 : decode prog_10_method_65_code 2 = .ok (.if_icmp .lt 7, 3) := by decide +kernel
theorem d_ma_max_5 : decode prog_10_method_65_code 5 = .ok (.iload_n 0, 1) := by decide +kernel
theorem d_ma_max_6 : decode prog_10_method_65_code 6 = .ok (.goto 4, 3) := by decide +kernel
theorem d_ma_max_9 : decode prog_10_method_65_code 9 = .ok (.iload_n 1, 1) := by decide +kernel
theorem d_ma_max_10 : decode prog_10_method_65_code 10 = .ok (.ireturn, 1) := by decide +kernel
theorem d_ma_min_0 : decode prog_10_method_69_code 0 = .ok (.iload_n 0, 1) := by decide +kernel
theorem d_ma_min_1 : decode prog_10_method_69_code 1 = .ok (.iload_n 1, 1) := by decide +kernel
theorem d_ma_min_2 : decode prog_10_method_69_code 2 = .ok (.if_icmp .gt 7, 3) := by decide +kernel
theorem d_ma_min_5 : decode prog_10_method_69_code 5 = .ok (.iload_n 0, 1) := by decide +kernel
theorem d_ma_min_6 : decode prog_10_method_69_code 6 = .ok (.goto 4, 3) := by decide +kernel
theorem d_ma_min_9 : decode prog_10_method_69_code 9 = .ok (.iload_n 1, 1) := by decide +kernel
theorem d_ma_min_10 : decode prog_10_method_69_code 10 = .ok (.ireturn, 1) := by decide +kernel
theorem d_sr_length_0 : decode prog_11_method_54_code 0 = .ok (.aload_n 0, 1) := by decide +kernel
theorem d_sr_length_1 : decode prog_11_method_54_code 1 = .ok (.getfield 9, 3) := by decide +kernel
theorem d_sr_length_4 : decode prog_11_method_54_code 4 = .ok (.arraylength, 1) := by decide +kernel
theorem d_sr_length_5 : decode prog_11_method_54_code 5 = .ok (.aload_n 0, 1) := by decide +kernel
theorem d_sr_length_6 : decode prog_11_method_54_code 6 = .ok (.invokevirtual 335, 3) := by decide +kernel
theorem d_sr_length_9 : decode prog_11_method_54_code 9 = .ok (.ishr, 1) := by decide +kernel
theorem d_sr_length_10 : decode prog_11_method_54_code 10 = .ok (.ireturn, 1) := by decide +kernel
theorem d_sr_indexOf_0 : decode prog_11_method_79_code 0 = .ok (.aload_n 0, 1) := by decide +kernel
theorem d_sr_indexOf_1 : decode prog_11_method_79_code 1 = .ok (.iload_n 1, 1) := by decide +kernel
theorem d_sr_indexOf_2 : decode prog_11_method_79_code 2 = .ok (.iconst 0, 1) := by decide +kernel
theorem d_sr_indexOf_3 : decode prog_11_method_79_code 3 = .ok (.invokevirtual 633, 3) := by decide +kernel
theorem d_sr_indexOf_6 : decode prog_11_method_79_code 6 = .ok (.ireturn, 1) := by decide +kernel
theorem d_sr_indexOf2_0 : decode prog_11_method_80_code 0 = .ok (.aload_n 0, 1) := by decide +kernel
theorem d_sr_indexOf2_1 : decode prog_11_method_80_code 1 = .ok (.invokevirtual 492, 3) := by decide +kernel
theorem d_sr_indexOf2_4 : decode prog_11_method_80_code 4 = .ok (.ifCond .eq 19, 3) := by decide +kernel
theorem d_sr_indexOf2_7 : decode prog_11_method_80_code 7 = .ok (.aload_n 0, 1) := by decide +kernel
theorem d_sr_indexOf2_8 : decode prog_11_method_80_code 8 = .ok (.getfield 9, 3) := by decide +kernel
theorem d_sr_indexOf2_11 : decode prog_11_method_80_code 11 = .ok (.iload_n 1, 1) := by decide +kernel
theorem d_sr_indexOf2_12 : decode prog_11_method_80_code 12 = .ok (.iload_n 2, 1) := by decide +kernel
theorem d_sr_indexOf2_13 : decode prog_11_method_80_code 13 = .ok (.aload_n 0, 1) := by decide +kernel
theorem d_sr_indexOf2_14 : decode prog_11_method_80_code 14 = .ok (.invokevirtual 505, 3) := by decide +kernel
theorem d_sr_indexOf2_17 : decode prog_11_method_80_code 17 = .ok (.invokestatic 637, 3) := by decide +kernel
theorem d_sr_indexOf2_20 : decode prog_11_method_80_code 20 = .ok (.goto 16, 3) := by decide +kernel
theorem d_sr_indexOf2_23 : decode prog_11_method_80_code 23 = .ok (.aload_n 0, 1) := by decide +kernel
theorem d_sr_indexOf2_24 : decode prog_11_method_80_code 24 = .ok (.getfield 9, 3) := by decide +kernel
theorem d_sr_indexOf2_27 : decode prog_11_method_80_code 27 = .ok (.iload_n 1, 1) := by decide +kernel
theorem d_sr_indexOf2_28 : decode prog_11_method_80_code 28 = .ok (.iload_n 2, 1) := by decide +kernel
theorem d_sr_indexOf2_29 : decode prog_11_method_80_code 29 = .ok (.aload_n 0, 1) := by decide +kernel
theorem d_sr_indexOf2_30 : decode prog_11_method_80_code 30 = .ok (.invokevirtual 505, 3) := by decide +kernel
theorem d_sr_indexOf2_33 : decode prog_11_method_80_code 33 = .ok (.invokestatic 640, 3) := by decide +kernel
theorem d_sr_indexOf2_36 : decode prog_11_method_80_code 36 = .ok (.ireturn, 1) := by decide +kernel
theorem d_sr_coder_0 : decode prog_11_method_152_code 0 = .ok (.getstatic 38, 3) := by decide +kernel
theorem d_sr_coder_3 : decode prog_11_method_152_code 3 = .ok (.ifCond .eq 10, 3) := by decide +kernel
theorem d_sr_coder_6 : decode prog_11_method_152_code 6 = .ok (.aload_n 0, 1) := by decide +kernel
theorem d_sr_coder_7 : decode prog_11_method_152_code 7 = .ok (.getfield 15, 3) := by decide +kernel
theorem d_sr_coder_10 : decode prog_11_method_152_code 10 = .ok (.goto 4, 3) := by decide +kernel
theorem d_sr_coder_13 : decode prog_11_method_152_code 13 = .ok (.iconst 1, 1) := by decide +kernel
theorem d_sr_coder_14 : decode prog_11_method_152_code 14 = .ok (.ireturn, 1) := by decide +kernel
theorem d_sr_isLatin1_0 : decode prog_11_method_154_code 0 = .ok (.getstatic 38, 3) := by decide +kernel
theorem d_sr_isLatin1_3 : decode prog_11_method_154_code 3 = .ok (.ifCond .eq 14, 3) := by decide +kernel
theorem d_sr_isLatin1_6 : decode prog_11_method_154_code 6 = .ok (.aload_n 0, 1) := by decide +kernel
theorem d_sr_isLatin1_7 : decode prog_11_method_154_code 7 = .ok (.getfield 15, 3) := by decide +kernel
theorem d_sr_isLatin1_10 : decode prog_11_method_154_code 10 = .ok (.ifCond .ne 7, 3) := by decide +kernel
theorem d_sr_isLatin1_13 : decode prog_11_method_154_code 13 = .ok (.iconst 1, 1) := by decide +kernel
theorem d_sr_isLatin1_14 : decode prog_11_method_154_code 14 = .ok (.goto 4, 3) := by decide +kernel
theorem d_sr_isLatin1_17 : decode prog_11_method_154_code 17 = .ok (.iconst 0, 1) := by decide +kernel
theorem d_sr_isLatin1_18 : decode prog_11_method_154_code 18 = .ok (.ireturn, 1) := by decide +kernel
theorem d_sr_checkBoundsBeginEnd_0 : decode prog_11_method_158_code 0 = .ok (.iload_n 0, 1) := by decide +kernel
theorem d_sr_checkBoundsBeginEnd_1 : decode prog_11_method_158_code 1 = .ok (.iload_n 1, 1) := by decide +kernel
theorem d_sr_checkBoundsBeginEnd_2 : decode prog_11_method_158_code 2 = .ok (.iload_n 2, 1) := by decide +kernel
theorem d_sr_checkBoundsBeginEnd_3 : decode prog_11_method_158_code 3 = .ok (.getstatic 1053, 3) := by decide +kernel
theorem d_sr_checkBoundsBeginEnd_6 : decode prog_11_method_158_code 6 = .ok (.invokestatic 1062, 3) := by decide +kernel
theorem d_sr_checkBoundsBeginEnd_9 : decode prog_11_method_158_code 9 = .ok (.pop, 1) := by decide +kernel
theorem d_sr_checkBoundsBeginEnd_10 : decode prog_11_method_158_code 10 = .ok (.return_, 1) := by decide +kernel
theorem d_sl_canEncode_0 : decode prog_12_method_4_code 0 = .ok (.iload_n 0, 1) := by decide +kernel
theorem d_sl_canEncode_1 : decode prog_12_method_4_code 1 = .ok (.ifCond .lt 14, 3) := by decide +kernel
theorem d_sl_canEncode_4 : decode prog_12_method_4_code 4 = .ok (.iload_n 0, 1) := by decide +kernel
theorem d_sl_canEncode_5 : decode prog_12_method_4_code 5 = .ok (.sipush 255, 3) := by decide +kernel
theorem d_sl_canEncode_8 : decode prog_12_method_4_code 8 = .ok (.if_icmp .gt 7, 3) := by decide +kernel
theorem d_sl_canEncode_11 : decode prog_12_method_4_code 11 = .ok (.iconst 1, 1) := by decide +kernel
theorem d_sl_canEncode_12 : decode prog_12_method_4_code 12 = .ok (.goto 4, 3) := by decide +kernel
theorem d_sl_canEncode_15 : decode prog_12_method_4_code 15 = .ok (.iconst 0, 1) := by decide +kernel
theorem d_sl_canEncode_16 : decode prog_12_method_4_code 16 = .ok (.ireturn, 1) := by decide +kernel
theorem d_sl_indexOf_0 : decode prog_12_method_22_code 0 = .ok (.iload_n 1, 1) := by decide +kernel
theorem d_sl_indexOf_1 : decode prog_12_method_22_code 1 = .ok (.invokestatic 88, 3) := by decide +kernel
theorem d_sl_indexOf_4 : decode prog_12_method_22_code 4 = .ok (.ifCond .ne 5, 3) := by decide +kernel
theorem d_sl_indexOf_7 : decode prog_12_method_22_code 7 = .ok (.iconst (-1), 1) := by decide +kernel
theorem d_sl_indexOf_8 : decode prog_12_method_22_code 8 = .ok (.ireturn, 1) := by decide +kernel
theorem d_sl_indexOf_9 : decode prog_12_method_22_code 9 = .ok (.iload_n 2, 1) := by decide +kernel
theorem d_sl_indexOf_10 : decode prog_12_method_22_code 10 = .ok (.iconst 0, 1) := by decide +kernel
theorem d_sl_indexOf_11 : decode prog_12_method_22_code 11 = .ok (.invokestatic 92, 3) := by decide +kernel
theorem d_sl_indexOf_14 : decode prog_12_method_22_code 14 = .ok (.istore_n 2, 1) := by decide +kernel
theorem d_sl_indexOf_15 : decode prog_12_method_22_code 15 = .ok (.iload_n 3, 1) := by decide +kernel
theorem d_sl_indexOf_16 : decode prog_12_method_22_code 16 = .ok (.aload_n 0, 1) := by decide +kernel
theorem d_sl_indexOf_17 : decode prog_12_method_22_code 17 = .ok (.arraylength, 1) := by decide +kernel
theorem d_sl_indexOf_18 : decode prog_12_method_22_code 18 = .ok (.invokestatic 38, 3) := by decide +kernel
theorem d_sl_indexOf_21 : decode prog_12_method_22_code 21 = .ok (.istore_n 3, 1) := by decide +kernel
theorem d_sl_indexOf_22 : decode prog_12_method_22_code 22 = .ok (.iload_n 2, 1) := by decide +kernel
theorem d_sl_indexOf_23 : decode prog_12_method_22_code 23 = .ok (.iload_n 3, 1) := by decide +kernel
theorem d_sl_indexOf_24 : decode prog_12_method_22_code 24 = .ok (.if_icmp .lt 5, 3) := by decide +kernel
theorem d_sl_indexOf_27 : decode prog_12_method_22_code 27 = .ok (.iconst (-1), 1) := by decide +kernel
theorem d_sl_indexOf_28 : decode prog_12_method_22_code 28 = .ok (.ireturn, 1) := by decide +kernel
theorem d_sl_indexOf_29 : decode prog_12_method_22_code 29 = .ok (.aload_n 0, 1) := by decide +kernel
theorem d_sl_indexOf_30 : decode prog_12_method_22_code 30 = .ok (.iload_n 1, 1) := by decide +kernel
theorem d_sl_indexOf_31 : decode prog_12_method_22_code 31 = .ok (.iload_n 2, 1) := by decide +kernel
theorem d_sl_indexOf_32 : decode prog_12_method_22_code 32 = .ok (.iload_n 3, 1) := by decide +kernel
theorem d_sl_indexOf_33 : decode prog_12_method_22_code 33 = .ok (.invokestatic 95, 3) := by decide +kernel
theorem d_sl_indexOf_36 : decode prog_12_method_22_code 36 = .ok (.ireturn, 1) := by decide +kernel
theorem d_sl_indexOfChar_0 : decode prog_12_method_23_code 0 = .ok (.iload_n 1, 1) := by decide +kernel
theorem d_sl_indexOfChar_1 : decode prog_12_method_23_code 1 = .ok (.i2b, 1) := by decide +kernel
theorem d_sl_indexOfChar_2 : decode prog_12_method_23_code 2 = .ok (.istore 4, 2) := by decide +kernel
theorem d_sl_indexOfChar_4 : decode prog_12_method_23_code 4 = .ok (.iload_n 2, 1) := by decide +kernel
theorem d_sl_indexOfChar_5 : decode prog_12_method_23_code 5 = .ok (.istore 5, 2) := by decide +kernel
theorem d_sl_indexOfChar_7 : decode prog_12_method_23_code 7 = .ok (.iload 5, 2) := by decide +kernel
theorem d_sl_indexOfChar_9 : decode prog_12_method_23_code 9 = .ok (.iload_n 3, 1) := by decide +kernel
theorem d_sl_indexOfChar_10 : decode prog_12_method_23_code 10 = .ok (.if_icmp .ge 21, 3) := by decide +kernel
theorem d_sl_indexOfChar_13 : decode prog_12_method_23_code 13 = .ok (.aload_n 0, 1) := by decide +kernel
theorem d_sl_indexOfChar_14 : decode prog_12_method_23_code 14 = .ok (.iload 5, 2) := by decide +kernel
theorem d_sl_indexOfChar_16 : decode prog_12_method_23_code 16 = .ok (.baload, 1) := by decide +kernel
theorem d_sl_indexOfChar_17 : decode prog_12_method_23_code 17 = .ok (.iload 4, 2) := by decide +kernel
theorem d_sl_indexOfChar_19 : decode prog_12_method_23_code 19 = .ok (.if_icmp .ne 6, 3) := by decide +kernel
theorem d_sl_indexOfChar_22 : decode prog_12_method_23_code 22 = .ok (.iload 5, 2) := by decide +kernel
theorem d_sl_indexOfChar_24 : decode prog_12_method_23_code 24 = .ok (.ireturn, 1) := by decide +kernel
theorem d_sl_indexOfChar_25 : decode prog_12_method_23_code 25 = .ok (.iinc 5 1, 3) := by decide +kernel
theorem d_sl_indexOfChar_28 : decode prog_12_method_23_code 28 = .ok (.goto (-21), 3) := by decide +kernel
theorem d_sl_indexOfChar_31 : decode prog_12_method_23_code 31 = .ok (.iconst (-1), 1) := by decide +kernel
theorem d_sl_indexOfChar_32 : decode prog_12_method_23_code 32 = .ok (.ireturn, 1) := by decide +kernel
theorem d_law_0 : decode code 0 = .ok (.new 7, 3) := by decide +kernel
theorem d_law_3 : decode code 3 = .ok (.dup, 1) := by decide +kernel
theorem d_law_4 : decode code 4 = .ok (.invokespecial 9, 3) := by decide +kernel
theorem d_law_7 : decode code 7 = .ok (.astore_n 1, 1) := by decide +kernel
theorem d_law_8 : decode code 8 = .ok (.new 10, 3) := by decide +kernel
theorem d_law_11 : decode code 11 = .ok (.dup, 1) := by decide +kernel
theorem d_law_12 : decode code 12 = .ok (.invokespecial 12, 3) := by decide +kernel
theorem d_law_15 : decode code 15 = .ok (.astore_n 2, 1) := by decide +kernel
theorem d_law_16 : decode code 16 = .ok (.iconst 0, 1) := by decide +kernel
theorem d_law_17 : decode code 17 = .ok (.istore_n 3, 1) := by decide +kernel
theorem d_law_18 : decode code 18 = .ok (.iload_n 3, 1) := by decide +kernel
theorem d_law_19 : decode code 19 = .ok (.aload_n 0, 1) := by decide +kernel
theorem d_law_20 : decode code 20 = .ok (.arraylength, 1) := by decide +kernel
theorem d_law_21 : decode code 21 = .ok (.bipush 6, 2) := by decide +kernel
theorem d_law_23 : decode code 23 = .ok (.isub, 1) := by decide +kernel
theorem d_law_24 : decode code 24 = .ok (.if_icmp .gt 1167, 3) := by decide +kernel
theorem d_law_27 : decode code 27 = .ok (.aload_n 0, 1) := by decide +kernel
theorem d_law_28 : decode code 28 = .ok (.iload_n 3, 1) := by decide +kernel
theorem d_law_29 : decode code 29 = .ok (.iaload, 1) := by decide +kernel
theorem d_law_30 : decode code 30 = .ok (.bipush 31, 2) := by decide +kernel
theorem d_law_32 : decode code 32 = .ok (.iand, 1) := by decide +kernel
theorem d_law_33 : decode code 33 = .ok (.tableswitch 1152 0 29 #[135, 158, 171, 184, 197, 230, 273, 306, 329, 362, 395, 448, 511, 554, 597, 640, 693, 756, 789, 822, 855, 908, 941, 974, 1033, 1046, 1089, 1102, 1115, 1138], 135) := by decide +kernel
theorem d_law_168 : decode code 168 = .ok (.aload_n 1, 1) := by decide +kernel
theorem d_law_169 : decode code 169 = .ok (.aload_n 0, 1) := by decide +kernel
theorem d_law_170 : decode code 170 = .ok (.iload_n 3, 1) := by decide +kernel
theorem d_law_171 : decode code 171 = .ok (.iconst 1, 1) := by decide +kernel
theorem d_law_172 : decode code 172 = .ok (.iadd, 1) := by decide +kernel
theorem d_law_173 : decode code 173 = .ok (.iaload, 1) := by decide +kernel
theorem d_law_174 : decode code 174 = .ok (.invokevirtual 13, 3) := by decide +kernel
theorem d_law_177 : decode code 177 = .ok (.aload_n 2, 1) := by decide +kernel
theorem d_law_178 : decode code 178 = .ok (.aload_n 0, 1) := by decide +kernel
theorem d_law_179 : decode code 179 = .ok (.iload_n 3, 1) := by decide +kernel
theorem d_law_180 : decode code 180 = .ok (.iconst 1, 1) := by decide +kernel
theorem d_law_181 : decode code 181 = .ok (.iadd, 1) := by decide +kernel
theorem d_law_182 : decode code 182 = .ok (.iaload, 1) := by decide +kernel
theorem d_law_183 : decode code 183 = .ok (.invokevirtual 17, 3) := by decide +kernel
theorem d_law_186 : decode code 186 = .ok (.if_icmp .eq 999, 3) := by decide +kernel
theorem d_law_189 : decode code 189 = .ok (.iconst 0, 1) := by decide +kernel
theorem d_law_190 : decode code 190 = .ok (.ireturn, 1) := by decide +kernel
theorem d_law_191 : decode code 191 = .ok (.aload_n 1, 1) := by decide +kernel
theorem d_law_192 : decode code 192 = .ok (.invokevirtual 18, 3) := by decide +kernel
theorem d_law_195 : decode code 195 = .ok (.aload_n 2, 1) := by decide +kernel
theorem d_law_196 : decode code 196 = .ok (.invokevirtual 22, 3) := by decide +kernel
theorem d_law_199 : decode code 199 = .ok (.if_icmp .eq 986, 3) := by decide +kernel
theorem d_law_202 : decode code 202 = .ok (.iconst 0, 1) := by decide +kernel
theorem d_law_203 : decode code 203 = .ok (.ireturn, 1) := by decide +kernel
theorem d_law_204 : decode code 204 = .ok (.aload_n 1, 1) := by decide +kernel
theorem d_law_205 : decode code 205 = .ok (.invokevirtual 23, 3) := by decide +kernel
theorem d_law_208 : decode code 208 = .ok (.aload_n 2, 1) := by decide +kernel
theorem d_law_209 : decode code 209 = .ok (.invokevirtual 26, 3) := by decide +kernel
theorem d_law_212 : decode code 212 = .ok (.if_icmp .eq 973, 3) := by decide +kernel
theorem d_law_215 : decode code 215 = .ok (.iconst 0, 1) := by decide +kernel
theorem d_law_216 : decode code 216 = .ok (.ireturn, 1) := by decide +kernel
theorem d_law_217 : decode code 217 = .ok (.aload_n 1, 1) := by decide +kernel
theorem d_law_218 : decode code 218 = .ok (.invokevirtual 27, 3) := by decide +kernel
theorem d_law_221 : decode code 221 = .ok (.aload_n 2, 1) := by decide +kernel
theorem d_law_222 : decode code 222 = .ok (.invokevirtual 30, 3) := by decide +kernel
theorem d_law_225 : decode code 225 = .ok (.if_icmp .eq 960, 3) := by decide +kernel
theorem d_law_228 : decode code 228 = .ok (.iconst 0, 1) := by decide +kernel
theorem d_law_229 : decode code 229 = .ok (.ireturn, 1) := by decide +kernel
theorem d_law_230 : decode code 230 = .ok (.aload_n 1, 1) := by decide +kernel
theorem d_law_231 : decode code 231 = .ok (.aload_n 0, 1) := by decide +kernel
theorem d_law_232 : decode code 232 = .ok (.iload_n 3, 1) := by decide +kernel
theorem d_law_233 : decode code 233 = .ok (.iconst 1, 1) := by decide +kernel
theorem d_law_234 : decode code 234 = .ok (.iadd, 1) := by decide +kernel
theorem d_law_235 : decode code 235 = .ok (.iaload, 1) := by decide +kernel
theorem d_law_236 : decode code 236 = .ok (.aload_n 0, 1) := by decide +kernel
theorem d_law_237 : decode code 237 = .ok (.iload_n 3, 1) := by decide +kernel
theorem d_law_238 : decode code 238 = .ok (.iconst 2, 1) := by decide +kernel
theorem d_law_239 : decode code 239 = .ok (.iadd, 1) := by decide +kernel
theorem d_law_240 : decode code 240 = .ok (.iaload, 1) := by decide +kernel
theorem d_law_241 : decode code 241 = .ok (.invokevirtual 31, 3) := by decide +kernel
theorem d_law_244 : decode code 244 = .ok (.aload_n 2, 1) := by decide +kernel
theorem d_law_245 : decode code 245 = .ok (.aload_n 0, 1) := by decide +kernel
theorem d_law_246 : decode code 246 = .ok (.iload_n 3, 1) := by decide +kernel
theorem d_law_247 : decode code 247 = .ok (.iconst 1, 1) := by decide +kernel
theorem d_law_248 : decode code 248 = .ok (.iadd, 1) := by decide +kernel
theorem d_law_249 : decode code 249 = .ok (.iaload, 1) := by decide +kernel
theorem d_law_250 : decode code 250 = .ok (.aload_n 0, 1) := by decide +kernel
theorem d_law_251 : decode code 251 = .ok (.iload_n 3, 1) := by decide +kernel
theorem d_law_252 : decode code 252 = .ok (.iconst 2, 1) := by decide +kernel
theorem d_law_253 : decode code 253 = .ok (.iadd, 1) := by decide +kernel
theorem d_law_254 : decode code 254 = .ok (.iaload, 1) := by decide +kernel
theorem d_law_255 : decode code 255 = .ok (.invokevirtual 35, 3) := by decide +kernel
theorem d_law_258 : decode code 258 = .ok (.if_icmp .eq 927, 3) := by decide +kernel
theorem d_law_261 : decode code 261 = .ok (.iconst 0, 1) := by decide +kernel
theorem d_law_262 : decode code 262 = .ok (.ireturn, 1) := by decide +kernel
theorem d_law_263 : decode code 263 = .ok (.aload_n 1, 1) := by decide +kernel
theorem d_law_264 : decode code 264 = .ok (.aload_n 0, 1) := by decide +kernel
theorem d_law_265 : decode code 265 = .ok (.iload_n 3, 1) := by decide +kernel
theorem d_law_266 : decode code 266 = .ok (.iconst 1, 1) := by decide +kernel
theorem d_law_267 : decode code 267 = .ok (.iadd, 1) := by decide +kernel
theorem d_law_268 : decode code 268 = .ok (.iaload, 1) := by decide +kernel
theorem d_law_269 : decode code 269 = .ok (.aload_n 0, 1) := by decide +kernel
theorem d_law_270 : decode code 270 = .ok (.iload_n 3, 1) := by decide +kernel
theorem d_law_271 : decode code 271 = .ok (.iconst 2, 1) := by decide +kernel
theorem d_law_272 : decode code 272 = .ok (.iadd, 1) := by decide +kernel
theorem d_law_273 : decode code 273 = .ok (.iaload, 1) := by decide +kernel
theorem d_law_274 : decode code 274 = .ok (.aload_n 0, 1) := by decide +kernel
theorem d_law_275 : decode code 275 = .ok (.iload_n 3, 1) := by decide +kernel
theorem d_law_276 : decode code 276 = .ok (.iconst 3, 1) := by decide +kernel
theorem d_law_277 : decode code 277 = .ok (.iadd, 1) := by decide +kernel
theorem d_law_278 : decode code 278 = .ok (.iaload, 1) := by decide +kernel
theorem d_law_279 : decode code 279 = .ok (.invokevirtual 36, 3) := by decide +kernel
theorem d_law_282 : decode code 282 = .ok (.aload_n 2, 1) := by decide +kernel
theorem d_law_283 : decode code 283 = .ok (.aload_n 0, 1) := by decide +kernel
theorem d_law_284 : decode code 284 = .ok (.iload_n 3, 1) := by decide +kernel
theorem d_law_285 : decode code 285 = .ok (.iconst 1, 1) := by decide +kernel
theorem d_law_286 : decode code 286 = .ok (.iadd, 1) := by decide +kernel
theorem d_law_287 : decode code 287 = .ok (.iaload, 1) := by decide +kernel
theorem d_law_288 : decode code 288 = .ok (.aload_n 0, 1) := by decide +kernel
theorem d_law_289 : decode code 289 = .ok (.iload_n 3, 1) := by decide +kernel
theorem d_law_290 : decode code 290 = .ok (.iconst 2, 1) := by decide +kernel
theorem d_law_291 : decode code 291 = .ok (.iadd, 1) := by decide +kernel
theorem d_law_292 : decode code 292 = .ok (.iaload, 1) := by decide +kernel
theorem d_law_293 : decode code 293 = .ok (.aload_n 0, 1) := by decide +kernel
theorem d_law_294 : decode code 294 = .ok (.iload_n 3, 1) := by decide +kernel
theorem d_law_295 : decode code 295 = .ok (.iconst 3, 1) := by decide +kernel
theorem d_law_296 : decode code 296 = .ok (.iadd, 1) := by decide +kernel
theorem d_law_297 : decode code 297 = .ok (.iaload, 1) := by decide +kernel
theorem d_law_298 : decode code 298 = .ok (.invokevirtual 40, 3) := by decide +kernel
theorem d_law_301 : decode code 301 = .ok (.if_icmp .eq 884, 3) := by decide +kernel
theorem d_law_304 : decode code 304 = .ok (.iconst 0, 1) := by decide +kernel
theorem d_law_305 : decode code 305 = .ok (.ireturn, 1) := by decide +kernel
theorem d_law_306 : decode code 306 = .ok (.aload_n 1, 1) := by decide +kernel
theorem d_law_307 : decode code 307 = .ok (.aload_n 0, 1) := by decide +kernel
theorem d_law_308 : decode code 308 = .ok (.iload_n 3, 1) := by decide +kernel
theorem d_law_309 : decode code 309 = .ok (.iconst 1, 1) := by decide +kernel
theorem d_law_310 : decode code 310 = .ok (.iadd, 1) := by decide +kernel
theorem d_law_311 : decode code 311 = .ok (.iaload, 1) := by decide +kernel
theorem d_law_312 : decode code 312 = .ok (.aload_n 0, 1) := by decide +kernel
theorem d_law_313 : decode code 313 = .ok (.iload_n 3, 1) := by decide +kernel
theorem d_law_314 : decode code 314 = .ok (.iconst 2, 1) := by decide +kernel
theorem d_law_315 : decode code 315 = .ok (.iadd, 1) := by decide +kernel
theorem d_law_316 : decode code 316 = .ok (.iaload, 1) := by decide +kernel
theorem d_law_317 : decode code 317 = .ok (.invokevirtual 41, 3) := by decide +kernel
theorem d_law_320 : decode code 320 = .ok (.aload_n 2, 1) := by decide +kernel
theorem d_law_321 : decode code 321 = .ok (.aload_n 0, 1) := by decide +kernel
theorem d_law_322 : decode code 322 = .ok (.iload_n 3, 1) := by decide +kernel
theorem d_law_323 : decode code 323 = .ok (.iconst 1, 1) := by decide +kernel
theorem d_law_324 : decode code 324 = .ok (.iadd, 1) := by decide +kernel
theorem d_law_325 : decode code 325 = .ok (.iaload, 1) := by decide +kernel
theorem d_law_326 : decode code 326 = .ok (.aload_n 0, 1) := by decide +kernel
theorem d_law_327 : decode code 327 = .ok (.iload_n 3, 1) := by decide +kernel
theorem d_law_328 : decode code 328 = .ok (.iconst 2, 1) := by decide +kernel
theorem d_law_329 : decode code 329 = .ok (.iadd, 1) := by decide +kernel
theorem d_law_330 : decode code 330 = .ok (.iaload, 1) := by decide +kernel
theorem d_law_331 : decode code 331 = .ok (.invokevirtual 44, 3) := by decide +kernel
theorem d_law_334 : decode code 334 = .ok (.if_icmp .eq 851, 3) := by decide +kernel
theorem d_law_337 : decode code 337 = .ok (.iconst 0, 1) := by decide +kernel
theorem d_law_338 : decode code 338 = .ok (.ireturn, 1) := by decide +kernel
theorem d_law_339 : decode code 339 = .ok (.aload_n 1, 1) := by decide +kernel
theorem d_law_340 : decode code 340 = .ok (.aload_n 0, 1) := by decide +kernel
theorem d_law_341 : decode code 341 = .ok (.iload_n 3, 1) := by decide +kernel
theorem d_law_342 : decode code 342 = .ok (.iconst 1, 1) := by decide +kernel
theorem d_law_343 : decode code 343 = .ok (.iadd, 1) := by decide +kernel
theorem d_law_344 : decode code 344 = .ok (.iaload, 1) := by decide +kernel
theorem d_law_345 : decode code 345 = .ok (.invokevirtual 45, 3) := by decide +kernel
theorem d_law_348 : decode code 348 = .ok (.aload_n 2, 1) := by decide +kernel
theorem d_law_349 : decode code 349 = .ok (.aload_n 0, 1) := by decide +kernel
theorem d_law_350 : decode code 350 = .ok (.iload_n 3, 1) := by decide +kernel
theorem d_law_351 : decode code 351 = .ok (.iconst 1, 1) := by decide +kernel
theorem d_law_352 : decode code 352 = .ok (.iadd, 1) := by decide +kernel
theorem d_law_353 : decode code 353 = .ok (.iaload, 1) := by decide +kernel
theorem d_law_354 : decode code 354 = .ok (.invokevirtual 48, 3) := by decide +kernel
theorem d_law_357 : decode code 357 = .ok (.if_icmp .eq 828, 3) := by decide +kernel
theorem d_law_360 : decode code 360 = .ok (.iconst 0, 1) := by decide +kernel
theorem d_law_361 : decode code 361 = .ok (.ireturn, 1) := by decide +kernel
theorem d_law_362 : decode code 362 = .ok (.aload_n 1, 1) := by decide +kernel
theorem d_law_363 : decode code 363 = .ok (.aload_n 0, 1) := by decide +kernel
theorem d_law_364 : decode code 364 = .ok (.iload_n 3, 1) := by decide +kernel
theorem d_law_365 : decode code 365 = .ok (.iconst 1, 1) := by decide +kernel
theorem d_law_366 : decode code 366 = .ok (.iadd, 1) := by decide +kernel
theorem d_law_367 : decode code 367 = .ok (.iaload, 1) := by decide +kernel
theorem d_law_368 : decode code 368 = .ok (.aload_n 0, 1) := by decide +kernel
theorem d_law_369 : decode code 369 = .ok (.iload_n 3, 1) := by decide +kernel
theorem d_law_370 : decode code 370 = .ok (.iconst 2, 1) := by decide +kernel
theorem d_law_371 : decode code 371 = .ok (.iadd, 1) := by decide +kernel
theorem d_law_372 : decode code 372 = .ok (.iaload, 1) := by decide +kernel
theorem d_law_373 : decode code 373 = .ok (.invokevirtual 49, 3) := by decide +kernel
theorem d_law_376 : decode code 376 = .ok (.aload_n 2, 1) := by decide +kernel
theorem d_law_377 : decode code 377 = .ok (.aload_n 0, 1) := by decide +kernel
theorem d_law_378 : decode code 378 = .ok (.iload_n 3, 1) := by decide +kernel
theorem d_law_379 : decode code 379 = .ok (.iconst 1, 1) := by decide +kernel
theorem d_law_380 : decode code 380 = .ok (.iadd, 1) := by decide +kernel
theorem d_law_381 : decode code 381 = .ok (.iaload, 1) := by decide +kernel
theorem d_law_382 : decode code 382 = .ok (.aload_n 0, 1) := by decide +kernel
theorem d_law_383 : decode code 383 = .ok (.iload_n 3, 1) := by decide +kernel
theorem d_law_384 : decode code 384 = .ok (.iconst 2, 1) := by decide +kernel
theorem d_law_385 : decode code 385 = .ok (.iadd, 1) := by decide +kernel
theorem d_law_386 : decode code 386 = .ok (.iaload, 1) := by decide +kernel
theorem d_law_387 : decode code 387 = .ok (.invokevirtual 52, 3) := by decide +kernel
theorem d_law_390 : decode code 390 = .ok (.if_icmp .eq 795, 3) := by decide +kernel
theorem d_law_393 : decode code 393 = .ok (.iconst 0, 1) := by decide +kernel
theorem d_law_394 : decode code 394 = .ok (.ireturn, 1) := by decide +kernel
theorem d_law_395 : decode code 395 = .ok (.aload_n 1, 1) := by decide +kernel
theorem d_law_396 : decode code 396 = .ok (.aload_n 0, 1) := by decide +kernel
theorem d_law_397 : decode code 397 = .ok (.iload_n 3, 1) := by decide +kernel
theorem d_law_398 : decode code 398 = .ok (.iconst 1, 1) := by decide +kernel
theorem d_law_399 : decode code 399 = .ok (.iadd, 1) := by decide +kernel
theorem d_law_400 : decode code 400 = .ok (.iaload, 1) := by decide +kernel
theorem d_law_401 : decode code 401 = .ok (.aload_n 0, 1) := by decide +kernel
theorem d_law_402 : decode code 402 = .ok (.iload_n 3, 1) := by decide +kernel
theorem d_law_403 : decode code 403 = .ok (.iconst 2, 1) := by decide +kernel
theorem d_law_404 : decode code 404 = .ok (.iadd, 1) := by decide +kernel
theorem d_law_405 : decode code 405 = .ok (.iaload, 1) := by decide +kernel
theorem d_law_406 : decode code 406 = .ok (.invokevirtual 53, 3) := by decide +kernel
theorem d_law_409 : decode code 409 = .ok (.aload_n 2, 1) := by decide +kernel
theorem d_law_410 : decode code 410 = .ok (.aload_n 0, 1) := by decide +kernel
theorem d_law_411 : decode code 411 = .ok (.iload_n 3, 1) := by decide +kernel
theorem d_law_412 : decode code 412 = .ok (.iconst 1, 1) := by decide +kernel
theorem d_law_413 : decode code 413 = .ok (.iadd, 1) := by decide +kernel
theorem d_law_414 : decode code 414 = .ok (.iaload, 1) := by decide +kernel
theorem d_law_415 : decode code 415 = .ok (.aload_n 0, 1) := by decide +kernel
theorem d_law_416 : decode code 416 = .ok (.iload_n 3, 1) := by decide +kernel
theorem d_law_417 : decode code 417 = .ok (.iconst 2, 1) := by decide +kernel
theorem d_law_418 : decode code 418 = .ok (.iadd, 1) := by decide +kernel
theorem d_law_419 : decode code 419 = .ok (.iaload, 1) := by decide +kernel
theorem d_law_420 : decode code 420 = .ok (.invokevirtual 56, 3) := by decide +kernel
theorem d_law_423 : decode code 423 = .ok (.if_icmp .eq 762, 3) := by decide +kernel
theorem d_law_426 : decode code 426 = .ok (.iconst 0, 1) := by decide +kernel
theorem d_law_427 : decode code 427 = .ok (.ireturn, 1) := by decide +kernel
theorem d_law_428 : decode code 428 = .ok (.aload_n 1, 1) := by decide +kernel
theorem d_law_429 : decode code 429 = .ok (.aload_n 0, 1) := by decide +kernel
theorem d_law_430 : decode code 430 = .ok (.iload_n 3, 1) := by decide +kernel
theorem d_law_431 : decode code 431 = .ok (.iconst 1, 1) := by decide +kernel
theorem d_law_432 : decode code 432 = .ok (.iadd, 1) := by decide +kernel
theorem d_law_433 : decode code 433 = .ok (.iaload, 1) := by decide +kernel
theorem d_law_434 : decode code 434 = .ok (.aload_n 0, 1) := by decide +kernel
theorem d_law_435 : decode code 435 = .ok (.iload_n 3, 1) := by decide +kernel
theorem d_law_436 : decode code 436 = .ok (.iconst 2, 1) := by decide +kernel
theorem d_law_437 : decode code 437 = .ok (.iadd, 1) := by decide +kernel
theorem d_law_438 : decode code 438 = .ok (.iaload, 1) := by decide +kernel
theorem d_law_439 : decode code 439 = .ok (.aload_n 0, 1) := by decide +kernel
theorem d_law_440 : decode code 440 = .ok (.iload_n 3, 1) := by decide +kernel
theorem d_law_441 : decode code 441 = .ok (.iconst 3, 1) := by decide +kernel
theorem d_law_442 : decode code 442 = .ok (.iadd, 1) := by decide +kernel
theorem d_law_443 : decode code 443 = .ok (.iaload, 1) := by decide +kernel
theorem d_law_444 : decode code 444 = .ok (.aload_n 0, 1) := by decide +kernel
theorem d_law_445 : decode code 445 = .ok (.iload_n 3, 1) := by decide +kernel
theorem d_law_446 : decode code 446 = .ok (.iconst 4, 1) := by decide +kernel
theorem d_law_447 : decode code 447 = .ok (.iadd, 1) := by decide +kernel
theorem d_law_448 : decode code 448 = .ok (.iaload, 1) := by decide +kernel
theorem d_law_449 : decode code 449 = .ok (.invokevirtual 57, 3) := by decide +kernel
theorem d_law_452 : decode code 452 = .ok (.aload_n 2, 1) := by decide +kernel
theorem d_law_453 : decode code 453 = .ok (.aload_n 0, 1) := by decide +kernel
theorem d_law_454 : decode code 454 = .ok (.iload_n 3, 1) := by decide +kernel
theorem d_law_455 : decode code 455 = .ok (.iconst 1, 1) := by decide +kernel
theorem d_law_456 : decode code 456 = .ok (.iadd, 1) := by decide +kernel
theorem d_law_457 : decode code 457 = .ok (.iaload, 1) := by decide +kernel
theorem d_law_458 : decode code 458 = .ok (.aload_n 0, 1) := by decide +kernel
theorem d_law_459 : decode code 459 = .ok (.iload_n 3, 1) := by decide +kernel
theorem d_law_460 : decode code 460 = .ok (.iconst 2, 1) := by decide +kernel
theorem d_law_461 : decode code 461 = .ok (.iadd, 1) := by decide +kernel
theorem d_law_462 : decode code 462 = .ok (.iaload, 1) := by decide +kernel
theorem d_law_463 : decode code 463 = .ok (.aload_n 0, 1) := by decide +kernel
theorem d_law_464 : decode code 464 = .ok (.iload_n 3, 1) := by decide +kernel
theorem d_law_465 : decode code 465 = .ok (.iconst 3, 1) := by decide +kernel
theorem d_law_466 : decode code 466 = .ok (.iadd, 1) := by decide +kernel
theorem d_law_467 : decode code 467 = .ok (.iaload, 1) := by decide +kernel
theorem d_law_468 : decode code 468 = .ok (.aload_n 0, 1) := by decide +kernel
theorem d_law_469 : decode code 469 = .ok (.iload_n 3, 1) := by decide +kernel
theorem d_law_470 : decode code 470 = .ok (.iconst 4, 1) := by decide +kernel
theorem d_law_471 : decode code 471 = .ok (.iadd, 1) := by decide +kernel
theorem d_law_472 : decode code 472 = .ok (.iaload, 1) := by decide +kernel
theorem d_law_473 : decode code 473 = .ok (.invokevirtual 61, 3) := by decide +kernel
theorem d_law_476 : decode code 476 = .ok (.if_icmp .eq 709, 3) := by decide +kernel
theorem d_law_479 : decode code 479 = .ok (.iconst 0, 1) := by decide +kernel
theorem d_law_480 : decode code 480 = .ok (.ireturn, 1) := by decide +kernel
theorem d_law_481 : decode code 481 = .ok (.aload_n 1, 1) := by decide +kernel
theorem d_law_482 : decode code 482 = .ok (.aload_n 0, 1) := by decide +kernel
theorem d_law_483 : decode code 483 = .ok (.iload_n 3, 1) := by decide +kernel
theorem d_law_484 : decode code 484 = .ok (.iconst 1, 1) := by decide +kernel
theorem d_law_485 : decode code 485 = .ok (.iadd, 1) := by decide +kernel
theorem d_law_486 : decode code 486 = .ok (.iaload, 1) := by decide +kernel
theorem d_law_487 : decode code 487 = .ok (.aload_n 0, 1) := by decide +kernel
theorem d_law_488 : decode code 488 = .ok (.iload_n 3, 1) := by decide +kernel
theorem d_law_489 : decode code 489 = .ok (.iconst 2, 1) := by decide +kernel
theorem d_law_490 : decode code 490 = .ok (.iadd, 1) := by decide +kernel
theorem d_law_491 : decode code 491 = .ok (.iaload, 1) := by decide +kernel
theorem d_law_492 : decode code 492 = .ok (.aload_n 0, 1) := by decide +kernel
theorem d_law_493 : decode code 493 = .ok (.iload_n 3, 1) := by decide +kernel
theorem d_law_494 : decode code 494 = .ok (.iconst 3, 1) := by decide +kernel
theorem d_law_495 : decode code 495 = .ok (.iadd, 1) := by decide +kernel
theorem d_law_496 : decode code 496 = .ok (.iaload, 1) := by decide +kernel
theorem d_law_497 : decode code 497 = .ok (.aload_n 0, 1) := by decide +kernel
theorem d_law_498 : decode code 498 = .ok (.iload_n 3, 1) := by decide +kernel
theorem d_law_499 : decode code 499 = .ok (.iconst 4, 1) := by decide +kernel
theorem d_law_500 : decode code 500 = .ok (.iadd, 1) := by decide +kernel
theorem d_law_501 : decode code 501 = .ok (.iaload, 1) := by decide +kernel
theorem d_law_502 : decode code 502 = .ok (.aload_n 0, 1) := by decide +kernel
theorem d_law_503 : decode code 503 = .ok (.iload_n 3, 1) := by decide +kernel
theorem d_law_504 : decode code 504 = .ok (.iconst 5, 1) := by decide +kernel
theorem d_law_505 : decode code 505 = .ok (.iadd, 1) := by decide +kernel
theorem d_law_506 : decode code 506 = .ok (.iaload, 1) := by decide +kernel
theorem d_law_507 : decode code 507 = .ok (.invokevirtual 62, 3) := by decide +kernel
theorem d_law_510 : decode code 510 = .ok (.aload_n 2, 1) := by decide +kernel
theorem d_law_511 : decode code 511 = .ok (.aload_n 0, 1) := by decide +kernel
theorem d_law_512 : decode code 512 = .ok (.iload_n 3, 1) := by decide +kernel
theorem d_law_513 : decode code 513 = .ok (.iconst 1, 1) := by decide +kernel
theorem d_law_514 : decode code 514 = .ok (.iadd, 1) := by decide +kernel
theorem d_law_515 : decode code 515 = .ok (.iaload, 1) := by decide +kernel
theorem d_law_516 : decode code 516 = .ok (.aload_n 0, 1) := by decide +kernel
theorem d_law_517 : decode code 517 = .ok (.iload_n 3, 1) := by decide +kernel
theorem d_law_518 : decode code 518 = .ok (.iconst 2, 1) := by decide +kernel
theorem d_law_519 : decode code 519 = .ok (.iadd, 1) := by decide +kernel
theorem d_law_520 : decode code 520 = .ok (.iaload, 1) := by decide +kernel
theorem d_law_521 : decode code 521 = .ok (.aload_n 0, 1) := by decide +kernel
theorem d_law_522 : decode code 522 = .ok (.iload_n 3, 1) := by decide +kernel
theorem d_law_523 : decode code 523 = .ok (.iconst 3, 1) := by decide +kernel
theorem d_law_524 : decode code 524 = .ok (.iadd, 1) := by decide +kernel
theorem d_law_525 : decode code 525 = .ok (.iaload, 1) := by decide +kernel
theorem d_law_526 : decode code 526 = .ok (.aload_n 0, 1) := by decide +kernel
theorem d_law_527 : decode code 527 = .ok (.iload_n 3, 1) := by decide +kernel
theorem d_law_528 : decode code 528 = .ok (.iconst 4, 1) := by decide +kernel
theorem d_law_529 : decode code 529 = .ok (.iadd, 1) := by decide +kernel
theorem d_law_530 : decode code 530 = .ok (.iaload, 1) := by decide +kernel
theorem d_law_531 : decode code 531 = .ok (.aload_n 0, 1) := by decide +kernel
theorem d_law_532 : decode code 532 = .ok (.iload_n 3, 1) := by decide +kernel
theorem d_law_533 : decode code 533 = .ok (.iconst 5, 1) := by decide +kernel
theorem d_law_534 : decode code 534 = .ok (.iadd, 1) := by decide +kernel
theorem d_law_535 : decode code 535 = .ok (.iaload, 1) := by decide +kernel
theorem d_law_536 : decode code 536 = .ok (.invokevirtual 66, 3) := by decide +kernel
theorem d_law_539 : decode code 539 = .ok (.if_icmp .eq 646, 3) := by decide +kernel
theorem d_law_542 : decode code 542 = .ok (.iconst 0, 1) := by decide +kernel
theorem d_law_543 : decode code 543 = .ok (.ireturn, 1) := by decide +kernel
theorem d_law_544 : decode code 544 = .ok (.aload_n 1, 1) := by decide +kernel
theorem d_law_545 : decode code 545 = .ok (.aload_n 0, 1) := by decide +kernel
theorem d_law_546 : decode code 546 = .ok (.iload_n 3, 1) := by decide +kernel
theorem d_law_547 : decode code 547 = .ok (.iconst 1, 1) := by decide +kernel
theorem d_law_548 : decode code 548 = .ok (.iadd, 1) := by decide +kernel
theorem d_law_549 : decode code 549 = .ok (.iaload, 1) := by decide +kernel
theorem d_law_550 : decode code 550 = .ok (.aload_n 0, 1) := by decide +kernel
theorem d_law_551 : decode code 551 = .ok (.iload_n 3, 1) := by decide +kernel
theorem d_law_552 : decode code 552 = .ok (.iconst 2, 1) := by decide +kernel
theorem d_law_553 : decode code 553 = .ok (.iadd, 1) := by decide +kernel
theorem d_law_554 : decode code 554 = .ok (.iaload, 1) := by decide +kernel
theorem d_law_555 : decode code 555 = .ok (.aload_n 0, 1) := by decide +kernel
theorem d_law_556 : decode code 556 = .ok (.iload_n 3, 1) := by decide +kernel
theorem d_law_557 : decode code 557 = .ok (.iconst 3, 1) := by decide +kernel
theorem d_law_558 : decode code 558 = .ok (.iadd, 1) := by decide +kernel
theorem d_law_559 : decode code 559 = .ok (.iaload, 1) := by decide +kernel
theorem d_law_560 : decode code 560 = .ok (.invokevirtual 67, 3) := by decide +kernel
theorem d_law_563 : decode code 563 = .ok (.aload_n 2, 1) := by decide +kernel
theorem d_law_564 : decode code 564 = .ok (.aload_n 0, 1) := by decide +kernel
theorem d_law_565 : decode code 565 = .ok (.iload_n 3, 1) := by decide +kernel
theorem d_law_566 : decode code 566 = .ok (.iconst 1, 1) := by decide +kernel
theorem d_law_567 : decode code 567 = .ok (.iadd, 1) := by decide +kernel
theorem d_law_568 : decode code 568 = .ok (.iaload, 1) := by decide +kernel
theorem d_law_569 : decode code 569 = .ok (.aload_n 0, 1) := by decide +kernel
theorem d_law_570 : decode code 570 = .ok (.iload_n 3, 1) := by decide +kernel
theorem d_law_571 : decode code 571 = .ok (.iconst 2, 1) := by decide +kernel
theorem d_law_572 : decode code 572 = .ok (.iadd, 1) := by decide +kernel
theorem d_law_573 : decode code 573 = .ok (.iaload, 1) := by decide +kernel
theorem d_law_574 : decode code 574 = .ok (.aload_n 0, 1) := by decide +kernel
theorem d_law_575 : decode code 575 = .ok (.iload_n 3, 1) := by decide +kernel
theorem d_law_576 : decode code 576 = .ok (.iconst 3, 1) := by decide +kernel
theorem d_law_577 : decode code 577 = .ok (.iadd, 1) := by decide +kernel
theorem d_law_578 : decode code 578 = .ok (.iaload, 1) := by decide +kernel
theorem d_law_579 : decode code 579 = .ok (.invokevirtual 70, 3) := by decide +kernel
theorem d_law_582 : decode code 582 = .ok (.if_icmp .eq 603, 3) := by decide +kernel
theorem d_law_585 : decode code 585 = .ok (.iconst 0, 1) := by decide +kernel
theorem d_law_586 : decode code 586 = .ok (.ireturn, 1) := by decide +kernel
theorem d_law_587 : decode code 587 = .ok (.aload_n 1, 1) := by decide +kernel
theorem d_law_588 : decode code 588 = .ok (.aload_n 0, 1) := by decide +kernel
theorem d_law_589 : decode code 589 = .ok (.iload_n 3, 1) := by decide +kernel
theorem d_law_590 : decode code 590 = .ok (.iconst 1, 1) := by decide +kernel
theorem d_law_591 : decode code 591 = .ok (.iadd, 1) := by decide +kernel
theorem d_law_592 : decode code 592 = .ok (.iaload, 1) := by decide +kernel
theorem d_law_593 : decode code 593 = .ok (.aload_n 0, 1) := by decide +kernel
theorem d_law_594 : decode code 594 = .ok (.iload_n 3, 1) := by decide +kernel
theorem d_law_595 : decode code 595 = .ok (.iconst 2, 1) := by decide +kernel
theorem d_law_596 : decode code 596 = .ok (.iadd, 1) := by decide +kernel
theorem d_law_597 : decode code 597 = .ok (.iaload, 1) := by decide +kernel
theorem d_law_598 : decode code 598 = .ok (.aload_n 0, 1) := by decide +kernel
theorem d_law_599 : decode code 599 = .ok (.iload_n 3, 1) := by decide +kernel
theorem d_law_600 : decode code 600 = .ok (.iconst 3, 1) := by decide +kernel
theorem d_law_601 : decode code 601 = .ok (.iadd, 1) := by decide +kernel
theorem d_law_602 : decode code 602 = .ok (.iaload, 1) := by decide +kernel
theorem d_law_603 : decode code 603 = .ok (.invokevirtual 71, 3) := by decide +kernel
theorem d_law_606 : decode code 606 = .ok (.aload_n 2, 1) := by decide +kernel
theorem d_law_607 : decode code 607 = .ok (.aload_n 0, 1) := by decide +kernel
theorem d_law_608 : decode code 608 = .ok (.iload_n 3, 1) := by decide +kernel
theorem d_law_609 : decode code 609 = .ok (.iconst 1, 1) := by decide +kernel
theorem d_law_610 : decode code 610 = .ok (.iadd, 1) := by decide +kernel
theorem d_law_611 : decode code 611 = .ok (.iaload, 1) := by decide +kernel
theorem d_law_612 : decode code 612 = .ok (.aload_n 0, 1) := by decide +kernel
theorem d_law_613 : decode code 613 = .ok (.iload_n 3, 1) := by decide +kernel
theorem d_law_614 : decode code 614 = .ok (.iconst 2, 1) := by decide +kernel
theorem d_law_615 : decode code 615 = .ok (.iadd, 1) := by decide +kernel
theorem d_law_616 : decode code 616 = .ok (.iaload, 1) := by decide +kernel
theorem d_law_617 : decode code 617 = .ok (.aload_n 0, 1) := by decide +kernel
theorem d_law_618 : decode code 618 = .ok (.iload_n 3, 1) := by decide +kernel
theorem d_law_619 : decode code 619 = .ok (.iconst 3, 1) := by decide +kernel
theorem d_law_620 : decode code 620 = .ok (.iadd, 1) := by decide +kernel
theorem d_law_621 : decode code 621 = .ok (.iaload, 1) := by decide +kernel
theorem d_law_622 : decode code 622 = .ok (.invokevirtual 74, 3) := by decide +kernel
theorem d_law_625 : decode code 625 = .ok (.if_icmp .eq 560, 3) := by decide +kernel
theorem d_law_628 : decode code 628 = .ok (.iconst 0, 1) := by decide +kernel
theorem d_law_629 : decode code 629 = .ok (.ireturn, 1) := by decide +kernel
theorem d_law_630 : decode code 630 = .ok (.aload_n 1, 1) := by decide +kernel
theorem d_law_631 : decode code 631 = .ok (.aload_n 0, 1) := by decide +kernel
theorem d_law_632 : decode code 632 = .ok (.iload_n 3, 1) := by decide +kernel
theorem d_law_633 : decode code 633 = .ok (.iconst 1, 1) := by decide +kernel
theorem d_law_634 : decode code 634 = .ok (.iadd, 1) := by decide +kernel
theorem d_law_635 : decode code 635 = .ok (.iaload, 1) := by decide +kernel
theorem d_law_636 : decode code 636 = .ok (.aload_n 0, 1) := by decide +kernel
theorem d_law_637 : decode code 637 = .ok (.iload_n 3, 1) := by decide +kernel
theorem d_law_638 : decode code 638 = .ok (.iconst 2, 1) := by decide +kernel
theorem d_law_639 : decode code 639 = .ok (.iadd, 1) := by decide +kernel
theorem d_law_640 : decode code 640 = .ok (.iaload, 1) := by decide +kernel
theorem d_law_641 : decode code 641 = .ok (.aload_n 0, 1) := by decide +kernel
theorem d_law_642 : decode code 642 = .ok (.iload_n 3, 1) := by decide +kernel
theorem d_law_643 : decode code 643 = .ok (.iconst 3, 1) := by decide +kernel
theorem d_law_644 : decode code 644 = .ok (.iadd, 1) := by decide +kernel
theorem d_law_645 : decode code 645 = .ok (.iaload, 1) := by decide +kernel
theorem d_law_646 : decode code 646 = .ok (.invokevirtual 75, 3) := by decide +kernel
theorem d_law_649 : decode code 649 = .ok (.aload_n 2, 1) := by decide +kernel
theorem d_law_650 : decode code 650 = .ok (.aload_n 0, 1) := by decide +kernel
theorem d_law_651 : decode code 651 = .ok (.iload_n 3, 1) := by decide +kernel
theorem d_law_652 : decode code 652 = .ok (.iconst 1, 1) := by decide +kernel
theorem d_law_653 : decode code 653 = .ok (.iadd, 1) := by decide +kernel
theorem d_law_654 : decode code 654 = .ok (.iaload, 1) := by decide +kernel
theorem d_law_655 : decode code 655 = .ok (.aload_n 0, 1) := by decide +kernel
theorem d_law_656 : decode code 656 = .ok (.iload_n 3, 1) := by decide +kernel
theorem d_law_657 : decode code 657 = .ok (.iconst 2, 1) := by decide +kernel
theorem d_law_658 : decode code 658 = .ok (.iadd, 1) := by decide +kernel
theorem d_law_659 : decode code 659 = .ok (.iaload, 1) := by decide +kernel
theorem d_law_660 : decode code 660 = .ok (.aload_n 0, 1) := by decide +kernel
theorem d_law_661 : decode code 661 = .ok (.iload_n 3, 1) := by decide +kernel
theorem d_law_662 : decode code 662 = .ok (.iconst 3, 1) := by decide +kernel
theorem d_law_663 : decode code 663 = .ok (.iadd, 1) := by decide +kernel
theorem d_law_664 : decode code 664 = .ok (.iaload, 1) := by decide +kernel
theorem d_law_665 : decode code 665 = .ok (.invokevirtual 78, 3) := by decide +kernel
theorem d_law_668 : decode code 668 = .ok (.if_icmp .eq 517, 3) := by decide +kernel
theorem d_law_671 : decode code 671 = .ok (.iconst 0, 1) := by decide +kernel
theorem d_law_672 : decode code 672 = .ok (.ireturn, 1) := by decide +kernel
theorem d_law_673 : decode code 673 = .ok (.aload_n 1, 1) := by decide +kernel
theorem d_law_674 : decode code 674 = .ok (.aload_n 0, 1) := by decide +kernel
theorem d_law_675 : decode code 675 = .ok (.iload_n 3, 1) := by decide +kernel
theorem d_law_676 : decode code 676 = .ok (.iconst 1, 1) := by decide +kernel
theorem d_law_677 : decode code 677 = .ok (.iadd, 1) := by decide +kernel
theorem d_law_678 : decode code 678 = .ok (.iaload, 1) := by decide +kernel
theorem d_law_679 : decode code 679 = .ok (.aload_n 0, 1) := by decide +kernel
theorem d_law_680 : decode code 680 = .ok (.iload_n 3, 1) := by decide +kernel
theorem d_law_681 : decode code 681 = .ok (.iconst 2, 1) := by decide +kernel
theorem d_law_682 : decode code 682 = .ok (.iadd, 1) := by decide +kernel
theorem d_law_683 : decode code 683 = .ok (.iaload, 1) := by decide +kernel
theorem d_law_684 : decode code 684 = .ok (.aload_n 0, 1) := by decide +kernel
theorem d_law_685 : decode code 685 = .ok (.iload_n 3, 1) := by decide +kernel
theorem d_law_686 : decode code 686 = .ok (.iconst 3, 1) := by decide +kernel
theorem d_law_687 : decode code 687 = .ok (.iadd, 1) := by decide +kernel
theorem d_law_688 : decode code 688 = .ok (.iaload, 1) := by decide +kernel
theorem d_law_689 : decode code 689 = .ok (.aload_n 0, 1) := by decide +kernel
theorem d_law_690 : decode code 690 = .ok (.iload_n 3, 1) := by decide +kernel
theorem d_law_691 : decode code 691 = .ok (.iconst 4, 1) := by decide +kernel
theorem d_law_692 : decode code 692 = .ok (.iadd, 1) := by decide +kernel
theorem d_law_693 : decode code 693 = .ok (.iaload, 1) := by decide +kernel
theorem d_law_694 : decode code 694 = .ok (.invokevirtual 79, 3) := by decide +kernel
theorem d_law_697 : decode code 697 = .ok (.aload_n 2, 1) := by decide +kernel
theorem d_law_698 : decode code 698 = .ok (.aload_n 0, 1) := by decide +kernel
theorem d_law_699 : decode code 699 = .ok (.iload_n 3, 1) := by decide +kernel
theorem d_law_700 : decode code 700 = .ok (.iconst 1, 1) := by decide +kernel
theorem d_law_701 : decode code 701 = .ok (.iadd, 1) := by decide +kernel
theorem d_law_702 : decode code 702 = .ok (.iaload, 1) := by decide +kernel
theorem d_law_703 : decode code 703 = .ok (.aload_n 0, 1) := by decide +kernel
theorem d_law_704 : decode code 704 = .ok (.iload_n 3, 1) := by decide +kernel
theorem d_law_705 : decode code 705 = .ok (.iconst 2, 1) := by decide +kernel
theorem d_law_706 : decode code 706 = .ok (.iadd, 1) := by decide +kernel
theorem d_law_707 : decode code 707 = .ok (.iaload, 1) := by decide +kernel
theorem d_law_708 : decode code 708 = .ok (.aload_n 0, 1) := by decide +kernel
theorem d_law_709 : decode code 709 = .ok (.iload_n 3, 1) := by decide +kernel
theorem d_law_710 : decode code 710 = .ok (.iconst 3, 1) := by decide +kernel
theorem d_law_711 : decode code 711 = .ok (.iadd, 1) := by decide +kernel
theorem d_law_712 : decode code 712 = .ok (.iaload, 1) := by decide +kernel
theorem d_law_713 : decode code 713 = .ok (.aload_n 0, 1) := by decide +kernel
theorem d_law_714 : decode code 714 = .ok (.iload_n 3, 1) := by decide +kernel
theorem d_law_715 : decode code 715 = .ok (.iconst 4, 1) := by decide +kernel
theorem d_law_716 : decode code 716 = .ok (.iadd, 1) := by decide +kernel
theorem d_law_717 : decode code 717 = .ok (.iaload, 1) := by decide +kernel
theorem d_law_718 : decode code 718 = .ok (.invokevirtual 82, 3) := by decide +kernel
theorem d_law_721 : decode code 721 = .ok (.if_icmp .eq 464, 3) := by decide +kernel
theorem d_law_724 : decode code 724 = .ok (.iconst 0, 1) := by decide +kernel
theorem d_law_725 : decode code 725 = .ok (.ireturn, 1) := by decide +kernel
theorem d_law_726 : decode code 726 = .ok (.aload_n 1, 1) := by decide +kernel
theorem d_law_727 : decode code 727 = .ok (.aload_n 0, 1) := by decide +kernel
theorem d_law_728 : decode code 728 = .ok (.iload_n 3, 1) := by decide +kernel
theorem d_law_729 : decode code 729 = .ok (.iconst 1, 1) := by decide +kernel
theorem d_law_730 : decode code 730 = .ok (.iadd, 1) := by decide +kernel
theorem d_law_731 : decode code 731 = .ok (.iaload, 1) := by decide +kernel
theorem d_law_732 : decode code 732 = .ok (.aload_n 0, 1) := by decide +kernel
theorem d_law_733 : decode code 733 = .ok (.iload_n 3, 1) := by decide +kernel
theorem d_law_734 : decode code 734 = .ok (.iconst 2, 1) := by decide +kernel
theorem d_law_735 : decode code 735 = .ok (.iadd, 1) := by decide +kernel
theorem d_law_736 : decode code 736 = .ok (.iaload, 1) := by decide +kernel
theorem d_law_737 : decode code 737 = .ok (.aload_n 0, 1) := by decide +kernel
theorem d_law_738 : decode code 738 = .ok (.iload_n 3, 1) := by decide +kernel
theorem d_law_739 : decode code 739 = .ok (.iconst 3, 1) := by decide +kernel
theorem d_law_740 : decode code 740 = .ok (.iadd, 1) := by decide +kernel
theorem d_law_741 : decode code 741 = .ok (.iaload, 1) := by decide +kernel
theorem d_law_742 : decode code 742 = .ok (.aload_n 0, 1) := by decide +kernel
theorem d_law_743 : decode code 743 = .ok (.iload_n 3, 1) := by decide +kernel
theorem d_law_744 : decode code 744 = .ok (.iconst 4, 1) := by decide +kernel
theorem d_law_745 : decode code 745 = .ok (.iadd, 1) := by decide +kernel
theorem d_law_746 : decode code 746 = .ok (.iaload, 1) := by decide +kernel
theorem d_law_747 : decode code 747 = .ok (.aload_n 0, 1) := by decide +kernel
theorem d_law_748 : decode code 748 = .ok (.iload_n 3, 1) := by decide +kernel
theorem d_law_749 : decode code 749 = .ok (.iconst 5, 1) := by decide +kernel
theorem d_law_750 : decode code 750 = .ok (.iadd, 1) := by decide +kernel
theorem d_law_751 : decode code 751 = .ok (.iaload, 1) := by decide +kernel
theorem d_law_752 : decode code 752 = .ok (.invokevirtual 83, 3) := by decide +kernel
theorem d_law_755 : decode code 755 = .ok (.aload_n 2, 1) := by decide +kernel
theorem d_law_756 : decode code 756 = .ok (.aload_n 0, 1) := by decide +kernel
theorem d_law_757 : decode code 757 = .ok (.iload_n 3, 1) := by decide +kernel
theorem d_law_758 : decode code 758 = .ok (.iconst 1, 1) := by decide +kernel
theorem d_law_759 : decode code 759 = .ok (.iadd, 1) := by decide +kernel
theorem d_law_760 : decode code 760 = .ok (.iaload, 1) := by decide +kernel
theorem d_law_761 : decode code 761 = .ok (.aload_n 0, 1) := by decide +kernel
theorem d_law_762 : decode code 762 = .ok (.iload_n 3, 1) := by decide +kernel
theorem d_law_763 : decode code 763 = .ok (.iconst 2, 1) := by decide +kernel
theorem d_law_764 : decode code 764 = .ok (.iadd, 1) := by decide +kernel
theorem d_law_765 : decode code 765 = .ok (.iaload, 1) := by decide +kernel
theorem d_law_766 : decode code 766 = .ok (.aload_n 0, 1) := by decide +kernel
theorem d_law_767 : decode code 767 = .ok (.iload_n 3, 1) := by decide +kernel
theorem d_law_768 : decode code 768 = .ok (.iconst 3, 1) := by decide +kernel
theorem d_law_769 : decode code 769 = .ok (.iadd, 1) := by decide +kernel
theorem d_law_770 : decode code 770 = .ok (.iaload, 1) := by decide +kernel
theorem d_law_771 : decode code 771 = .ok (.aload_n 0, 1) := by decide +kernel
theorem d_law_772 : decode code 772 = .ok (.iload_n 3, 1) := by decide +kernel
theorem d_law_773 : decode code 773 = .ok (.iconst 4, 1) := by decide +kernel
theorem d_law_774 : decode code 774 = .ok (.iadd, 1) := by decide +kernel
theorem d_law_775 : decode code 775 = .ok (.iaload, 1) := by decide +kernel
theorem d_law_776 : decode code 776 = .ok (.aload_n 0, 1) := by decide +kernel
theorem d_law_777 : decode code 777 = .ok (.iload_n 3, 1) := by decide +kernel
theorem d_law_778 : decode code 778 = .ok (.iconst 5, 1) := by decide +kernel
theorem d_law_779 : decode code 779 = .ok (.iadd, 1) := by decide +kernel
theorem d_law_780 : decode code 780 = .ok (.iaload, 1) := by decide +kernel
theorem d_law_781 : decode code 781 = .ok (.invokevirtual 86, 3) := by decide +kernel
theorem d_law_784 : decode code 784 = .ok (.if_icmp .eq 401, 3) := by decide +kernel
theorem d_law_787 : decode code 787 = .ok (.iconst 0, 1) := by decide +kernel
theorem d_law_788 : decode code 788 = .ok (.ireturn, 1) := by decide +kernel
theorem d_law_789 : decode code 789 = .ok (.aload_n 1, 1) := by decide +kernel
theorem d_law_790 : decode code 790 = .ok (.aload_n 0, 1) := by decide +kernel
theorem d_law_791 : decode code 791 = .ok (.iload_n 3, 1) := by decide +kernel
theorem d_law_792 : decode code 792 = .ok (.iconst 1, 1) := by decide +kernel
theorem d_law_793 : decode code 793 = .ok (.iadd, 1) := by decide +kernel
theorem d_law_794 : decode code 794 = .ok (.iaload, 1) := by decide +kernel
theorem d_law_795 : decode code 795 = .ok (.aload_n 0, 1) := by decide +kernel
theorem d_law_796 : decode code 796 = .ok (.iload_n 3, 1) := by decide +kernel
theorem d_law_797 : decode code 797 = .ok (.iconst 2, 1) := by decide +kernel
theorem d_law_798 : decode code 798 = .ok (.iadd, 1) := by decide +kernel
theorem d_law_799 : decode code 799 = .ok (.iaload, 1) := by decide +kernel
theorem d_law_800 : decode code 800 = .ok (.invokevirtual 87, 3) := by decide +kernel
theorem d_law_803 : decode code 803 = .ok (.aload_n 2, 1) := by decide +kernel
theorem d_law_804 : decode code 804 = .ok (.aload_n 0, 1) := by decide +kernel
theorem d_law_805 : decode code 805 = .ok (.iload_n 3, 1) := by decide +kernel
theorem d_law_806 : decode code 806 = .ok (.iconst 1, 1) := by decide +kernel
theorem d_law_807 : decode code 807 = .ok (.iadd, 1) := by decide +kernel
theorem d_law_808 : decode code 808 = .ok (.iaload, 1) := by decide +kernel
theorem d_law_809 : decode code 809 = .ok (.aload_n 0, 1) := by decide +kernel
theorem d_law_810 : decode code 810 = .ok (.iload_n 3, 1) := by decide +kernel
theorem d_law_811 : decode code 811 = .ok (.iconst 2, 1) := by decide +kernel
theorem d_law_812 : decode code 812 = .ok (.iadd, 1) := by decide +kernel
theorem d_law_813 : decode code 813 = .ok (.iaload, 1) := by decide +kernel
theorem d_law_814 : decode code 814 = .ok (.invokevirtual 90, 3) := by decide +kernel
theorem d_law_817 : decode code 817 = .ok (.if_icmp .eq 368, 3) := by decide +kernel
theorem d_law_820 : decode code 820 = .ok (.iconst 0, 1) := by decide +kernel
theorem d_law_821 : decode code 821 = .ok (.ireturn, 1) := by decide +kernel
theorem d_law_822 : decode code 822 = .ok (.aload_n 1, 1) := by decide +kernel
theorem d_law_823 : decode code 823 = .ok (.aload_n 0, 1) := by decide +kernel
theorem d_law_824 : decode code 824 = .ok (.iload_n 3, 1) := by decide +kernel
theorem d_law_825 : decode code 825 = .ok (.iconst 1, 1) := by decide +kernel
theorem d_law_826 : decode code 826 = .ok (.iadd, 1) := by decide +kernel
theorem d_law_827 : decode code 827 = .ok (.iaload, 1) := by decide +kernel
theorem d_law_828 : decode code 828 = .ok (.aload_n 0, 1) := by decide +kernel
theorem d_law_829 : decode code 829 = .ok (.iload_n 3, 1) := by decide +kernel
theorem d_law_830 : decode code 830 = .ok (.iconst 2, 1) := by decide +kernel
theorem d_law_831 : decode code 831 = .ok (.iadd, 1) := by decide +kernel
theorem d_law_832 : decode code 832 = .ok (.iaload, 1) := by decide +kernel
theorem d_law_833 : decode code 833 = .ok (.invokevirtual 91, 3) := by decide +kernel
theorem d_law_836 : decode code 836 = .ok (.aload_n 2, 1) := by decide +kernel
theorem d_law_837 : decode code 837 = .ok (.aload_n 0, 1) := by decide +kernel
theorem d_law_838 : decode code 838 = .ok (.iload_n 3, 1) := by decide +kernel
theorem d_law_839 : decode code 839 = .ok (.iconst 1, 1) := by decide +kernel
theorem d_law_840 : decode code 840 = .ok (.iadd, 1) := by decide +kernel
theorem d_law_841 : decode code 841 = .ok (.iaload, 1) := by decide +kernel
theorem d_law_842 : decode code 842 = .ok (.aload_n 0, 1) := by decide +kernel
theorem d_law_843 : decode code 843 = .ok (.iload_n 3, 1) := by decide +kernel
theorem d_law_844 : decode code 844 = .ok (.iconst 2, 1) := by decide +kernel
theorem d_law_845 : decode code 845 = .ok (.iadd, 1) := by decide +kernel
theorem d_law_846 : decode code 846 = .ok (.iaload, 1) := by decide +kernel
theorem d_law_847 : decode code 847 = .ok (.invokevirtual 94, 3) := by decide +kernel
theorem d_law_850 : decode code 850 = .ok (.if_icmp .eq 335, 3) := by decide +kernel
theorem d_law_853 : decode code 853 = .ok (.iconst 0, 1) := by decide +kernel
theorem d_law_854 : decode code 854 = .ok (.ireturn, 1) := by decide +kernel
theorem d_law_855 : decode code 855 = .ok (.aload_n 1, 1) := by decide +kernel
theorem d_law_856 : decode code 856 = .ok (.aload_n 0, 1) := by decide +kernel
theorem d_law_857 : decode code 857 = .ok (.iload_n 3, 1) := by decide +kernel
theorem d_law_858 : decode code 858 = .ok (.iconst 1, 1) := by decide +kernel
theorem d_law_859 : decode code 859 = .ok (.iadd, 1) := by decide +kernel
theorem d_law_860 : decode code 860 = .ok (.iaload, 1) := by decide +kernel
theorem d_law_861 : decode code 861 = .ok (.aload_n 0, 1) := by decide +kernel
theorem d_law_862 : decode code 862 = .ok (.iload_n 3, 1) := by decide +kernel
theorem d_law_863 : decode code 863 = .ok (.iconst 2, 1) := by decide +kernel
theorem d_law_864 : decode code 864 = .ok (.iadd, 1) := by decide +kernel
theorem d_law_865 : decode code 865 = .ok (.iaload, 1) := by decide +kernel
theorem d_law_866 : decode code 866 = .ok (.invokevirtual 95, 3) := by decide +kernel
theorem d_law_869 : decode code 869 = .ok (.aload_n 2, 1) := by decide +kernel
theorem d_law_870 : decode code 870 = .ok (.aload_n 0, 1) := by decide +kernel
theorem d_law_871 : decode code 871 = .ok (.iload_n 3, 1) := by decide +kernel
theorem d_law_872 : decode code 872 = .ok (.iconst 1, 1) := by decide +kernel
theorem d_law_873 : decode code 873 = .ok (.iadd, 1) := by decide +kernel
theorem d_law_874 : decode code 874 = .ok (.iaload, 1) := by decide +kernel
theorem d_law_875 : decode code 875 = .ok (.aload_n 0, 1) := by decide +kernel
theorem d_law_876 : decode code 876 = .ok (.iload_n 3, 1) := by decide +kernel
theorem d_law_877 : decode code 877 = .ok (.iconst 2, 1) := by decide +kernel
theorem d_law_878 : decode code 878 = .ok (.iadd, 1) := by decide +kernel
theorem d_law_879 : decode code 879 = .ok (.iaload, 1) := by decide +kernel
theorem d_law_880 : decode code 880 = .ok (.invokevirtual 98, 3) := by decide +kernel
theorem d_law_883 : decode code 883 = .ok (.if_icmp .eq 302, 3) := by decide +kernel
theorem d_law_886 : decode code 886 = .ok (.iconst 0, 1) := by decide +kernel
theorem d_law_887 : decode code 887 = .ok (.ireturn, 1) := by decide +kernel
theorem d_law_888 : decode code 888 = .ok (.aload_n 1, 1) := by decide +kernel
theorem d_law_889 : decode code 889 = .ok (.aload_n 0, 1) := by decide +kernel
theorem d_law_890 : decode code 890 = .ok (.iload_n 3, 1) := by decide +kernel
theorem d_law_891 : decode code 891 = .ok (.iconst 1, 1) := by decide +kernel
theorem d_law_892 : decode code 892 = .ok (.iadd, 1) := by decide +kernel
theorem d_law_893 : decode code 893 = .ok (.iaload, 1) := by decide +kernel
theorem d_law_894 : decode code 894 = .ok (.aload_n 0, 1) := by decide +kernel
theorem d_law_895 : decode code 895 = .ok (.iload_n 3, 1) := by decide +kernel
theorem d_law_896 : decode code 896 = .ok (.iconst 2, 1) := by decide +kernel
theorem d_law_897 : decode code 897 = .ok (.iadd, 1) := by decide +kernel
theorem d_law_898 : decode code 898 = .ok (.iaload, 1) := by decide +kernel
theorem d_law_899 : decode code 899 = .ok (.aload_n 0, 1) := by decide +kernel
theorem d_law_900 : decode code 900 = .ok (.iload_n 3, 1) := by decide +kernel
theorem d_law_901 : decode code 901 = .ok (.iconst 3, 1) := by decide +kernel
theorem d_law_902 : decode code 902 = .ok (.iadd, 1) := by decide +kernel
theorem d_law_903 : decode code 903 = .ok (.iaload, 1) := by decide +kernel
theorem d_law_904 : decode code 904 = .ok (.aload_n 0, 1) := by decide +kernel
theorem d_law_905 : decode code 905 = .ok (.iload_n 3, 1) := by decide +kernel
theorem d_law_906 : decode code 906 = .ok (.iconst 4, 1) := by decide +kernel
theorem d_law_907 : decode code 907 = .ok (.iadd, 1) := by decide +kernel
theorem d_law_908 : decode code 908 = .ok (.iaload, 1) := by decide +kernel
theorem d_law_909 : decode code 909 = .ok (.invokevirtual 99, 3) := by decide +kernel
theorem d_law_912 : decode code 912 = .ok (.aload_n 2, 1) := by decide +kernel
theorem d_law_913 : decode code 913 = .ok (.aload_n 0, 1) := by decide +kernel
theorem d_law_914 : decode code 914 = .ok (.iload_n 3, 1) := by decide +kernel
theorem d_law_915 : decode code 915 = .ok (.iconst 1, 1) := by decide +kernel
theorem d_law_916 : decode code 916 = .ok (.iadd, 1) := by decide +kernel
theorem d_law_917 : decode code 917 = .ok (.iaload, 1) := by decide +kernel
theorem d_law_918 : decode code 918 = .ok (.aload_n 0, 1) := by decide +kernel
theorem d_law_919 : decode code 919 = .ok (.iload_n 3, 1) := by decide +kernel
theorem d_law_920 : decode code 920 = .ok (.iconst 2, 1) := by decide +kernel
theorem d_law_921 : decode code 921 = .ok (.iadd, 1) := by decide +kernel
theorem d_law_922 : decode code 922 = .ok (.iaload, 1) := by decide +kernel
theorem d_law_923 : decode code 923 = .ok (.aload_n 0, 1) := by decide +kernel
theorem d_law_924 : decode code 924 = .ok (.iload_n 3, 1) := by decide +kernel
theorem d_law_925 : decode code 925 = .ok (.iconst 3, 1) := by decide +kernel
theorem d_law_926 : decode code 926 = .ok (.iadd, 1) := by decide +kernel
theorem d_law_927 : decode code 927 = .ok (.iaload, 1) := by decide +kernel
theorem d_law_928 : decode code 928 = .ok (.aload_n 0, 1) := by decide +kernel
theorem d_law_929 : decode code 929 = .ok (.iload_n 3, 1) := by decide +kernel
theorem d_law_930 : decode code 930 = .ok (.iconst 4, 1) := by decide +kernel
theorem d_law_931 : decode code 931 = .ok (.iadd, 1) := by decide +kernel
theorem d_law_932 : decode code 932 = .ok (.iaload, 1) := by decide +kernel
theorem d_law_933 : decode code 933 = .ok (.invokevirtual 102, 3) := by decide +kernel
theorem d_law_936 : decode code 936 = .ok (.if_icmp .eq 249, 3) := by decide +kernel
theorem d_law_939 : decode code 939 = .ok (.iconst 0, 1) := by decide +kernel
theorem d_law_940 : decode code 940 = .ok (.ireturn, 1) := by decide +kernel
theorem d_law_941 : decode code 941 = .ok (.aload_n 1, 1) := by decide +kernel
theorem d_law_942 : decode code 942 = .ok (.aload_n 0, 1) := by decide +kernel
theorem d_law_943 : decode code 943 = .ok (.iload_n 3, 1) := by decide +kernel
theorem d_law_944 : decode code 944 = .ok (.iconst 1, 1) := by decide +kernel
theorem d_law_945 : decode code 945 = .ok (.iadd, 1) := by decide +kernel
theorem d_law_946 : decode code 946 = .ok (.iaload, 1) := by decide +kernel
theorem d_law_947 : decode code 947 = .ok (.aload_n 0, 1) := by decide +kernel
theorem d_law_948 : decode code 948 = .ok (.iload_n 3, 1) := by decide +kernel
theorem d_law_949 : decode code 949 = .ok (.iconst 2, 1) := by decide +kernel
theorem d_law_950 : decode code 950 = .ok (.iadd, 1) := by decide +kernel
theorem d_law_951 : decode code 951 = .ok (.iaload, 1) := by decide +kernel
theorem d_law_952 : decode code 952 = .ok (.invokevirtual 103, 3) := by decide +kernel
theorem d_law_955 : decode code 955 = .ok (.aload_n 2, 1) := by decide +kernel
theorem d_law_956 : decode code 956 = .ok (.aload_n 0, 1) := by decide +kernel
theorem d_law_957 : decode code 957 = .ok (.iload_n 3, 1) := by decide +kernel
theorem d_law_958 : decode code 958 = .ok (.iconst 1, 1) := by decide +kernel
theorem d_law_959 : decode code 959 = .ok (.iadd, 1) := by decide +kernel
theorem d_law_960 : decode code 960 = .ok (.iaload, 1) := by decide +kernel
theorem d_law_961 : decode code 961 = .ok (.aload_n 0, 1) := by decide +kernel
theorem d_law_962 : decode code 962 = .ok (.iload_n 3, 1) := by decide +kernel
theorem d_law_963 : decode code 963 = .ok (.iconst 2, 1) := by decide +kernel
theorem d_law_964 : decode code 964 = .ok (.iadd, 1) := by decide +kernel
theorem d_law_965 : decode code 965 = .ok (.iaload, 1) := by decide +kernel
theorem d_law_966 : decode code 966 = .ok (.invokevirtual 106, 3) := by decide +kernel
theorem d_law_969 : decode code 969 = .ok (.if_icmp .eq 216, 3) := by decide +kernel
theorem d_law_972 : decode code 972 = .ok (.iconst 0, 1) := by decide +kernel
theorem d_law_973 : decode code 973 = .ok (.ireturn, 1) := by decide +kernel
theorem d_law_974 : decode code 974 = .ok (.aload_n 1, 1) := by decide +kernel
theorem d_law_975 : decode code 975 = .ok (.aload_n 0, 1) := by decide +kernel
theorem d_law_976 : decode code 976 = .ok (.iload_n 3, 1) := by decide +kernel
theorem d_law_977 : decode code 977 = .ok (.iconst 1, 1) := by decide +kernel
theorem d_law_978 : decode code 978 = .ok (.iadd, 1) := by decide +kernel
theorem d_law_979 : decode code 979 = .ok (.iaload, 1) := by decide +kernel
theorem d_law_980 : decode code 980 = .ok (.aload_n 0, 1) := by decide +kernel
theorem d_law_981 : decode code 981 = .ok (.iload_n 3, 1) := by decide +kernel
theorem d_law_982 : decode code 982 = .ok (.iconst 2, 1) := by decide +kernel
theorem d_law_983 : decode code 983 = .ok (.iadd, 1) := by decide +kernel
theorem d_law_984 : decode code 984 = .ok (.iaload, 1) := by decide +kernel
theorem d_law_985 : decode code 985 = .ok (.invokevirtual 107, 3) := by decide +kernel
theorem d_law_988 : decode code 988 = .ok (.aload_n 2, 1) := by decide +kernel
theorem d_law_989 : decode code 989 = .ok (.aload_n 0, 1) := by decide +kernel
theorem d_law_990 : decode code 990 = .ok (.iload_n 3, 1) := by decide +kernel
theorem d_law_991 : decode code 991 = .ok (.iconst 1, 1) := by decide +kernel
theorem d_law_992 : decode code 992 = .ok (.iadd, 1) := by decide +kernel
theorem d_law_993 : decode code 993 = .ok (.iaload, 1) := by decide +kernel
theorem d_law_994 : decode code 994 = .ok (.aload_n 0, 1) := by decide +kernel
theorem d_law_995 : decode code 995 = .ok (.iload_n 3, 1) := by decide +kernel
theorem d_law_996 : decode code 996 = .ok (.iconst 2, 1) := by decide +kernel
theorem d_law_997 : decode code 997 = .ok (.iadd, 1) := by decide +kernel
theorem d_law_998 : decode code 998 = .ok (.iaload, 1) := by decide +kernel
theorem d_law_999 : decode code 999 = .ok (.invokevirtual 110, 3) := by decide +kernel
theorem d_law_1002 : decode code 1002 = .ok (.if_icmp .eq 183, 3) := by decide +kernel
theorem d_law_1005 : decode code 1005 = .ok (.iconst 0, 1) := by decide +kernel
theorem d_law_1006 : decode code 1006 = .ok (.ireturn, 1) := by decide +kernel
theorem d_law_1007 : decode code 1007 = .ok (.aload_n 1, 1) := by decide +kernel
theorem d_law_1008 : decode code 1008 = .ok (.aload_n 0, 1) := by decide +kernel
theorem d_law_1009 : decode code 1009 = .ok (.iload_n 3, 1) := by decide +kernel
theorem d_law_1010 : decode code 1010 = .ok (.iconst 1, 1) := by decide +kernel
theorem d_law_1011 : decode code 1011 = .ok (.iadd, 1) := by decide +kernel
theorem d_law_1012 : decode code 1012 = .ok (.iaload, 1) := by decide +kernel
theorem d_law_1013 : decode code 1013 = .ok (.aload_n 0, 1) := by decide +kernel
theorem d_law_1014 : decode code 1014 = .ok (.iload_n 3, 1) := by decide +kernel
theorem d_law_1015 : decode code 1015 = .ok (.iconst 2, 1) := by decide +kernel
theorem d_law_1016 : decode code 1016 = .ok (.iadd, 1) := by decide +kernel
theorem d_law_1017 : decode code 1017 = .ok (.iaload, 1) := by decide +kernel
theorem d_law_1018 : decode code 1018 = .ok (.aload_n 0, 1) := by decide +kernel
theorem d_law_1019 : decode code 1019 = .ok (.iload_n 3, 1) := by decide +kernel
theorem d_law_1020 : decode code 1020 = .ok (.iconst 3, 1) := by decide +kernel
theorem d_law_1021 : decode code 1021 = .ok (.iadd, 1) := by decide +kernel
theorem d_law_1022 : decode code 1022 = .ok (.iaload, 1) := by decide +kernel
theorem d_law_1023 : decode code 1023 = .ok (.ifCond .eq 7, 3) := by decide +kernel
theorem d_law_1026 : decode code 1026 = .ok (.iconst 1, 1) := by decide +kernel
theorem d_law_1027 : decode code 1027 = .ok (.goto 4, 3) := by decide +kernel
theorem d_law_1030 : decode code 1030 = .ok (.iconst 0, 1) := by decide +kernel
theorem d_law_1031 : decode code 1031 = .ok (.invokevirtual 111, 3) := by decide +kernel
theorem d_law_1034 : decode code 1034 = .ok (.aload_n 2, 1) := by decide +kernel
theorem d_law_1035 : decode code 1035 = .ok (.aload_n 0, 1) := by decide +kernel
theorem d_law_1036 : decode code 1036 = .ok (.iload_n 3, 1) := by decide +kernel
theorem d_law_1037 : decode code 1037 = .ok (.iconst 1, 1) := by decide +kernel
theorem d_law_1038 : decode code 1038 = .ok (.iadd, 1) := by decide +kernel
theorem d_law_1039 : decode code 1039 = .ok (.iaload, 1) := by decide +kernel
theorem d_law_1040 : decode code 1040 = .ok (.aload_n 0, 1) := by decide +kernel
theorem d_law_1041 : decode code 1041 = .ok (.iload_n 3, 1) := by decide +kernel
theorem d_law_1042 : decode code 1042 = .ok (.iconst 2, 1) := by decide +kernel
theorem d_law_1043 : decode code 1043 = .ok (.iadd, 1) := by decide +kernel
theorem d_law_1044 : decode code 1044 = .ok (.iaload, 1) := by decide +kernel
theorem d_law_1045 : decode code 1045 = .ok (.aload_n 0, 1) := by decide +kernel
theorem d_law_1046 : decode code 1046 = .ok (.iload_n 3, 1) := by decide +kernel
theorem d_law_1047 : decode code 1047 = .ok (.iconst 3, 1) := by decide +kernel
theorem d_law_1048 : decode code 1048 = .ok (.iadd, 1) := by decide +kernel
theorem d_law_1049 : decode code 1049 = .ok (.iaload, 1) := by decide +kernel
theorem d_law_1050 : decode code 1050 = .ok (.ifCond .eq 7, 3) := by decide +kernel
theorem d_law_1053 : decode code 1053 = .ok (.iconst 1, 1) := by decide +kernel
theorem d_law_1054 : decode code 1054 = .ok (.goto 4, 3) := by decide +kernel
theorem d_law_1057 : decode code 1057 = .ok (.iconst 0, 1) := by decide +kernel
theorem d_law_1058 : decode code 1058 = .ok (.invokevirtual 115, 3) := by decide +kernel
theorem d_law_1061 : decode code 1061 = .ok (.if_icmp .eq 124, 3) := by decide +kernel
theorem d_law_1064 : decode code 1064 = .ok (.iconst 0, 1) := by decide +kernel
theorem d_law_1065 : decode code 1065 = .ok (.ireturn, 1) := by decide +kernel
theorem d_law_1066 : decode code 1066 = .ok (.aload_n 1, 1) := by decide +kernel
theorem d_law_1067 : decode code 1067 = .ok (.invokevirtual 116, 3) := by decide +kernel
theorem d_law_1070 : decode code 1070 = .ok (.aload_n 2, 1) := by decide +kernel
theorem d_law_1071 : decode code 1071 = .ok (.invokevirtual 119, 3) := by decide +kernel
theorem d_law_1074 : decode code 1074 = .ok (.if_icmp .eq 111, 3) := by decide +kernel
theorem d_law_1077 : decode code 1077 = .ok (.iconst 0, 1) := by decide +kernel
theorem d_law_1078 : decode code 1078 = .ok (.ireturn, 1) := by decide +kernel
theorem d_law_1079 : decode code 1079 = .ok (.aload_n 1, 1) := by decide +kernel
theorem d_law_1080 : decode code 1080 = .ok (.aload_n 0, 1) := by decide +kernel
theorem d_law_1081 : decode code 1081 = .ok (.iload_n 3, 1) := by decide +kernel
theorem d_law_1082 : decode code 1082 = .ok (.iconst 1, 1) := by decide +kernel
theorem d_law_1083 : decode code 1083 = .ok (.iadd, 1) := by decide +kernel
theorem d_law_1084 : decode code 1084 = .ok (.iaload, 1) := by decide +kernel
theorem d_law_1085 : decode code 1085 = .ok (.aload_n 0, 1) := by decide +kernel
theorem d_law_1086 : decode code 1086 = .ok (.iload_n 3, 1) := by decide +kernel
theorem d_law_1087 : decode code 1087 = .ok (.iconst 2, 1) := by decide +kernel
theorem d_law_1088 : decode code 1088 = .ok (.iadd, 1) := by decide +kernel
theorem d_law_1089 : decode code 1089 = .ok (.iaload, 1) := by decide +kernel
theorem d_law_1090 : decode code 1090 = .ok (.aload_n 0, 1) := by decide +kernel
theorem d_law_1091 : decode code 1091 = .ok (.iload_n 3, 1) := by decide +kernel
theorem d_law_1092 : decode code 1092 = .ok (.iconst 3, 1) := by decide +kernel
theorem d_law_1093 : decode code 1093 = .ok (.iadd, 1) := by decide +kernel
theorem d_law_1094 : decode code 1094 = .ok (.iaload, 1) := by decide +kernel
theorem d_law_1095 : decode code 1095 = .ok (.invokevirtual 120, 3) := by decide +kernel
theorem d_law_1098 : decode code 1098 = .ok (.aload_n 2, 1) := by decide +kernel
theorem d_law_1099 : decode code 1099 = .ok (.aload_n 0, 1) := by decide +kernel
theorem d_law_1100 : decode code 1100 = .ok (.iload_n 3, 1) := by decide +kernel
theorem d_law_1101 : decode code 1101 = .ok (.iconst 1, 1) := by decide +kernel
theorem d_law_1102 : decode code 1102 = .ok (.iadd, 1) := by decide +kernel
theorem d_law_1103 : decode code 1103 = .ok (.iaload, 1) := by decide +kernel
theorem d_law_1104 : decode code 1104 = .ok (.aload_n 0, 1) := by decide +kernel
theorem d_law_1105 : decode code 1105 = .ok (.iload_n 3, 1) := by decide +kernel
theorem d_law_1106 : decode code 1106 = .ok (.iconst 2, 1) := by decide +kernel
theorem d_law_1107 : decode code 1107 = .ok (.iadd, 1) := by decide +kernel
theorem d_law_1108 : decode code 1108 = .ok (.iaload, 1) := by decide +kernel
theorem d_law_1109 : decode code 1109 = .ok (.aload_n 0, 1) := by decide +kernel
theorem d_law_1110 : decode code 1110 = .ok (.iload_n 3, 1) := by decide +kernel
theorem d_law_1111 : decode code 1111 = .ok (.iconst 3, 1) := by decide +kernel
theorem d_law_1112 : decode code 1112 = .ok (.iadd, 1) := by decide +kernel
theorem d_law_1113 : decode code 1113 = .ok (.iaload, 1) := by decide +kernel
theorem d_law_1114 : decode code 1114 = .ok (.invokevirtual 123, 3) := by decide +kernel
theorem d_law_1117 : decode code 1117 = .ok (.if_icmp .eq 68, 3) := by decide +kernel
theorem d_law_1120 : decode code 1120 = .ok (.iconst 0, 1) := by decide +kernel
theorem d_law_1121 : decode code 1121 = .ok (.ireturn, 1) := by decide +kernel
theorem d_law_1122 : decode code 1122 = .ok (.aload_n 1, 1) := by decide +kernel
theorem d_law_1123 : decode code 1123 = .ok (.invokevirtual 124, 3) := by decide +kernel
theorem d_law_1126 : decode code 1126 = .ok (.aload_n 2, 1) := by decide +kernel
theorem d_law_1127 : decode code 1127 = .ok (.invokevirtual 127, 3) := by decide +kernel
theorem d_law_1130 : decode code 1130 = .ok (.if_icmp .eq 55, 3) := by decide +kernel
theorem d_law_1133 : decode code 1133 = .ok (.iconst 0, 1) := by decide +kernel
theorem d_law_1134 : decode code 1134 = .ok (.ireturn, 1) := by decide +kernel
theorem d_law_1135 : decode code 1135 = .ok (.aload_n 1, 1) := by decide +kernel
theorem d_law_1136 : decode code 1136 = .ok (.invokevirtual 128, 3) := by decide +kernel
theorem d_law_1139 : decode code 1139 = .ok (.aload_n 2, 1) := by decide +kernel
theorem d_law_1140 : decode code 1140 = .ok (.invokevirtual 131, 3) := by decide +kernel
theorem d_law_1143 : decode code 1143 = .ok (.if_icmp .eq 42, 3) := by decide +kernel
theorem d_law_1146 : decode code 1146 = .ok (.iconst 0, 1) := by decide +kernel
theorem d_law_1147 : decode code 1147 = .ok (.ireturn, 1) := by decide +kernel
theorem d_law_1148 : decode code 1148 = .ok (.aload_n 1, 1) := by decide +kernel
theorem d_law_1149 : decode code 1149 = .ok (.aload_n 0, 1) := by decide +kernel
theorem d_law_1150 : decode code 1150 = .ok (.iload_n 3, 1) := by decide +kernel
theorem d_law_1151 : decode code 1151 = .ok (.iconst 1, 1) := by decide +kernel
theorem d_law_1152 : decode code 1152 = .ok (.iadd, 1) := by decide +kernel
theorem d_law_1153 : decode code 1153 = .ok (.iaload, 1) := by decide +kernel
theorem d_law_1154 : decode code 1154 = .ok (.invokevirtual 132, 3) := by decide +kernel
theorem d_law_1157 : decode code 1157 = .ok (.aload_n 2, 1) := by decide +kernel
theorem d_law_1158 : decode code 1158 = .ok (.aload_n 0, 1) := by decide +kernel
theorem d_law_1159 : decode code 1159 = .ok (.iload_n 3, 1) := by decide +kernel
theorem d_law_1160 : decode code 1160 = .ok (.iconst 1, 1) := by decide +kernel
theorem d_law_1161 : decode code 1161 = .ok (.iadd, 1) := by decide +kernel
theorem d_law_1162 : decode code 1162 = .ok (.iaload, 1) := by decide +kernel
theorem d_law_1163 : decode code 1163 = .ok (.invokevirtual 135, 3) := by decide +kernel
theorem d_law_1166 : decode code 1166 = .ok (.if_icmp .eq 19, 3) := by decide +kernel
theorem d_law_1169 : decode code 1169 = .ok (.iconst 0, 1) := by decide +kernel
theorem d_law_1170 : decode code 1170 = .ok (.ireturn, 1) := by decide +kernel
theorem d_law_1171 : decode code 1171 = .ok (.aload_n 1, 1) := by decide +kernel
theorem d_law_1172 : decode code 1172 = .ok (.invokevirtual 136, 3) := by decide +kernel
theorem d_law_1175 : decode code 1175 = .ok (.aload_n 2, 1) := by decide +kernel
theorem d_law_1176 : decode code 1176 = .ok (.invokevirtual 140, 3) := by decide +kernel
theorem d_law_1179 : decode code 1179 = .ok (.lcmp, 1) := by decide +kernel
theorem d_law_1180 : decode code 1180 = .ok (.ifCond .eq 5, 3) := by decide +kernel
theorem d_law_1183 : decode code 1183 = .ok (.iconst 0, 1) := by decide +kernel
theorem d_law_1184 : decode code 1184 = .ok (.ireturn, 1) := by decide +kernel
theorem d_law_1185 : decode code 1185 = .ok (.iinc 3 6, 3) := by decide +kernel
theorem d_law_1188 : decode code 1188 = .ok (.goto (-1170), 3) := by decide +kernel
theorem d_law_1191 : decode code 1191 = .ok (.iconst 1, 1) := by decide +kernel
theorem d_law_1192 : decode code 1192 = .ok (.ireturn, 1) := by decide +kernel
