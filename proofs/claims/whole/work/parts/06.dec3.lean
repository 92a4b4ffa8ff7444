theorem d_mo_init_102 : decode prog_7_method_1_code 102 = .ok (.iconst 4, 1) := by decide +kernel
theorem d_mo_init_103 : decode prog_7_method_1_code 103 = .ok (.newarray .int, 2) := by decide +kernel
theorem d_mo_init_105 : decode prog_7_method_1_code 105 = .ok (.putfield 50, 3) := by decide +kernel
theorem d_mo_init_108 : decode prog_7_method_1_code 108 = .ok (.aload_n 0, 1) := by decide +kernel
theorem d_mo_init_109 : decode prog_7_method_1_code 109 = .ok (.iconst 4, 1) := by decide +kernel
theorem d_mo_init_110 : decode prog_7_method_1_code 110 = .ok (.newarray .int, 2) := by decide +kernel
theorem d_mo_init_112 : decode prog_7_method_1_code 112 = .ok (.putfield 53, 3) := by decide +kernel
theorem d_mo_init_115 : decode prog_7_method_1_code 115 = .ok (.aload_n 0, 1) := by decide +kernel
theorem d_mo_init_116 : decode prog_7_method_1_code 116 = .ok (.iconst 4, 1) := by decide +kernel
theorem d_mo_init_117 : decode prog_7_method_1_code 117 = .ok (.newarray .int, 2) := by decide +kernel
theorem d_mo_init_119 : decode prog_7_method_1_code 119 = .ok (.putfield 56, 3) := by decide +kernel
theorem d_mo_init_122 : decode prog_7_method_1_code 122 = .ok (.aload_n 0, 1) := by decide +kernel
theorem d_mo_init_123 : decode prog_7_method_1_code 123 = .ok (.bipush 36, 2) := by decide +kernel
theorem d_mo_init_125 : decode prog_7_method_1_code 125 = .ok (.newarray .int, 2) := by decide +kernel
theorem d_mo_init_127 : decode prog_7_method_1_code 127 = .ok (.putfield 59, 3) := by decide +kernel
theorem d_mo_init_130 : decode prog_7_method_1_code 130 = .ok (.aload_n 0, 1) := by decide +kernel
theorem d_mo_init_131 : decode prog_7_method_1_code 131 = .ok (.iconst 4, 1) := by decide +kernel
theorem d_mo_init_132 : decode prog_7_method_1_code 132 = .ok (.newarray .int, 2) := by decide +kernel
theorem d_mo_init_134 : decode prog_7_method_1_code 134 = .ok (.putfield 62, 3) := by decide +kernel
theorem d_mo_init_137 : decode prog_7_method_1_code 137 = .ok (.aload_n 0, 1) := by decide +kernel
theorem d_mo_init_138 : decode prog_7_method_1_code 138 = .ok (.iconst 4, 1) := by decide +kernel
theorem d_mo_init_139 : decode prog_7_method_1_code 139 = .ok (.newarray .int, 2) := by decide +kernel
theorem d_mo_init_141 : decode prog_7_method_1_code 141 = .ok (.putfield 65, 3) := by decide +kernel
theorem d_mo_init_144 : decode prog_7_method_1_code 144 = .ok (.aload_n 0, 1) := by decide +kernel
theorem d_mo_init_145 : decode prog_7_method_1_code 145 = .ok (.iconst 4, 1) := by decide +kernel
theorem d_mo_init_146 : decode prog_7_method_1_code 146 = .ok (.newarray .int, 2) := by decide +kernel
theorem d_mo_init_148 : decode prog_7_method_1_code 148 = .ok (.putfield 68, 3) := by decide +kernel
theorem d_mo_init_151 : decode prog_7_method_1_code 151 = .ok (.aload_n 0, 1) := by decide +kernel
theorem d_mo_init_152 : decode prog_7_method_1_code 152 = .ok (.iconst 4, 1) := by decide +kernel
theorem d_mo_init_153 : decode prog_7_method_1_code 153 = .ok (.newarray .int, 2) := by decide +kernel
theorem d_mo_init_155 : decode prog_7_method_1_code 155 = .ok (.putfield 71, 3) := by decide +kernel
theorem d_mo_init_158 : decode prog_7_method_1_code 158 = .ok (.aload_n 0, 1) := by decide +kernel
theorem d_mo_init_159 : decode prog_7_method_1_code 159 = .ok (.iconst 4, 1) := by decide +kernel
theorem d_mo_init_160 : decode prog_7_method_1_code 160 = .ok (.newarray .int, 2) := by decide +kernel
theorem d_mo_init_162 : decode prog_7_method_1_code 162 = .ok (.putfield 74, 3) := by decide +kernel
theorem d_mo_init_165 : decode prog_7_method_1_code 165 = .ok (.aload_n 0, 1) := by decide +kernel
theorem d_mo_init_166 : decode prog_7_method_1_code 166 = .ok (.bipush 36, 2) := by decide +kernel
theorem d_mo_init_168 : decode prog_7_method_1_code 168 = .ok (.newarray .int, 2) := by decide +kernel
theorem d_mo_init_170 : decode prog_7_method_1_code 170 = .ok (.putfield 77, 3) := by decide +kernel
theorem d_mo_init_173 : decode prog_7_method_1_code 173 = .ok (.aload_n 0, 1) := by decide +kernel
theorem d_mo_init_174 : decode prog_7_method_1_code 174 = .ok (.bipush 6, 2) := by decide +kernel
theorem d_mo_init_176 : decode prog_7_method_1_code 176 = .ok (.newarray .int, 2) := by decide +kernel
theorem d_mo_init_178 : decode prog_7_method_1_code 178 = .ok (.putfield 80, 3) := by decide +kernel
theorem d_mo_init_181 : decode prog_7_method_1_code 181 = .ok (.aload_n 0, 1) := by decide +kernel
theorem d_mo_init_182 : decode prog_7_method_1_code 182 = .ok (.bipush 6, 2) := by decide +kernel
theorem d_mo_init_184 : decode prog_7_method_1_code 184 = .ok (.newarray .int, 2) := by decide +kernel
theorem d_mo_init_186 : decode prog_7_method_1_code 186 = .ok (.putfield 83, 3) := by decide +kernel
theorem d_mo_init_189 : decode prog_7_method_1_code 189 = .ok (.aload_n 0, 1) := by decide +kernel
theorem d_mo_init_190 : decode prog_7_method_1_code 190 = .ok (.bipush 6, 2) := by decide +kernel
theorem d_mo_init_192 : decode prog_7_method_1_code 192 = .ok (.newarray .int, 2) := by decide +kernel
theorem d_mo_init_194 : decode prog_7_method_1_code 194 = .ok (.putfield 86, 3) := by decide +kernel
theorem d_mo_init_197 : decode prog_7_method_1_code 197 = .ok (.iconst 0, 1) := by decide +kernel
theorem d_mo_init_198 : decode prog_7_method_1_code 198 = .ok (.istore_n 1, 1) := by decide +kernel
theorem d_mo_init_199 : decode prog_7_method_1_code 199 = .ok (.iload_n 1, 1) := by decide +kernel
theorem d_mo_init_200 : decode prog_7_method_1_code 200 = .ok (.bipush 64, 2) := by decide +kernel
theorem d_mo_init_202 : decode prog_7_method_1_code 202 = .ok (.if_icmp .gt 51, 3) := by decide +kernel
theorem d_mo_init_205 : decode prog_7_method_1_code 205 = .ok (.iload_n 1, 1) := by decide +kernel
theorem d_mo_init_206 : decode prog_7_method_1_code 206 = .ok (.bipush 32, 2) := by decide +kernel
theorem d_mo_init_208 : decode prog_7_method_1_code 208 = .ok (.if_icmp .le 10, 3) := by decide +kernel
theorem d_mo_init_211 : decode prog_7_method_1_code 211 = .ok (.bipush 64, 2) := by decide +kernel
theorem d_mo_init_213 : decode prog_7_method_1_code 213 = .ok (.iload_n 1, 1) := by decide +kernel
theorem d_mo_init_214 : decode prog_7_method_1_code 214 = .ok (.isub, 1) := by decide +kernel
theorem d_mo_init_215 : decode prog_7_method_1_code 215 = .ok (.goto 4, 3) := by decide +kernel
theorem d_mo_init_218 : decode prog_7_method_1_code 218 = .ok (.iload_n 1, 1) := by decide +kernel
theorem d_mo_init_219 : decode prog_7_method_1_code 219 = .ok (.istore_n 2, 1) := by decide +kernel
theorem d_mo_init_220 : decode prog_7_method_1_code 220 = .ok (.aload_n 0, 1) := by decide +kernel
theorem d_mo_init_221 : decode prog_7_method_1_code 221 = .ok (.getfield 28, 3) := by decide +kernel
theorem d_mo_init_224 : decode prog_7_method_1_code 224 = .ok (.iload_n 1, 1) := by decide +kernel
theorem d_mo_init_225 : decode prog_7_method_1_code 225 = .ok (.iload_n 2, 1) := by decide +kernel
theorem d_mo_init_226 : decode prog_7_method_1_code 226 = .ok (.bipush 16, 2) := by decide +kernel
theorem d_mo_init_228 : decode prog_7_method_1_code 228 = .ok (.if_icmp .le 14, 3) := by decide +kernel
theorem d_mo_init_231 : decode prog_7_method_1_code 231 = .ok (.bipush 32, 2) := by decide +kernel
theorem d_mo_init_233 : decode prog_7_method_1_code 233 = .ok (.iload_n 2, 1) := by decide +kernel
theorem d_mo_init_234 : decode prog_7_method_1_code 234 = .ok (.isub, 1) := by decide +kernel
theorem d_mo_init_235 : decode prog_7_method_1_code 235 = .ok (.invokestatic 89, 3) := by decide +kernel
theorem d_mo_init_238 : decode prog_7_method_1_code 238 = .ok (.ineg, 1) := by decide +kernel
theorem d_mo_init_239 : decode prog_7_method_1_code 239 = .ok (.goto 7, 3) := by decide +kernel
theorem d_mo_init_242 : decode prog_7_method_1_code 242 = .ok (.iload_n 2, 1) := by decide +kernel
theorem d_mo_init_243 : decode prog_7_method_1_code 243 = .ok (.invokestatic 89, 3) := by decide +kernel
theorem d_mo_init_246 : decode prog_7_method_1_code 246 = .ok (.iastore, 1) := by decide +kernel
theorem d_mo_init_247 : decode prog_7_method_1_code 247 = .ok (.iinc 1 1, 3) := by decide +kernel
theorem d_mo_init_250 : decode prog_7_method_1_code 250 = .ok (.goto (-51), 3) := by decide +kernel
theorem d_mo_init_253 : decode prog_7_method_1_code 253 = .ok (.return_, 1) := by decide +kernel
theorem d_mo_quarter_0 : decode prog_7_method_3_code 0 = .ok (.iload_n 0, 1) := by decide +kernel
theorem d_mo_quarter_1 : decode prog_7_method_3_code 1 = .ok (.tableswitch 142 0 15 #[79, 83, 87, 91, 95, 99, 103, 107, 111, 115, 119, 123, 127, 131, 135, 139], 79) := by decide +kernel
theorem d_mo_quarter_80 : decode prog_7_method_3_code 80 = .ok (.sipush 1000, 3) := by decide +kernel
theorem d_mo_quarter_83 : decode prog_7_method_3_code 83 = .ok (.ireturn, 1) := by decide +kernel
theorem d_mo_quarter_84 : decode prog_7_method_3_code 84 = .ok (.sipush 995, 3) := by decide +kernel
theorem d_mo_quarter_87 : decode prog_7_method_3_code 87 = .ok (.ireturn, 1) := by decide +kernel
theorem d_mo_quarter_88 : decode prog_7_method_3_code 88 = .ok (.sipush 981, 3) := by decide +kernel
theorem d_mo_quarter_91 : decode prog_7_method_3_code 91 = .ok (.ireturn, 1) := by decide +kernel
theorem d_mo_quarter_92 : decode prog_7_method_3_code 92 = .ok (.sipush 957, 3) := by decide +kernel
theorem d_mo_quarter_95 : decode prog_7_method_3_code 95 = .ok (.ireturn, 1) := by decide +kernel
theorem d_mo_quarter_96 : decode prog_7_method_3_code 96 = .ok (.sipush 924, 3) := by decide +kernel
theorem d_mo_quarter_99 : decode prog_7_method_3_code 99 = .ok (.ireturn, 1) := by decide +kernel
theorem d_mo_quarter_100 : decode prog_7_method_3_code 100 = .ok (.sipush 882, 3) := by decide +kernel
theorem d_mo_quarter_103 : decode prog_7_method_3_code 103 = .ok (.ireturn, 1) := by decide +kernel
theorem d_mo_quarter_104 : decode prog_7_method_3_code 104 = .ok (.sipush 831, 3) := by decide +kernel
theorem d_mo_quarter_107 : decode prog_7_method_3_code 107 = .ok (.ireturn, 1) := by decide +kernel
theorem d_mo_quarter_108 : decode prog_7_method_3_code 108 = .ok (.sipush 773, 3) := by decide +kernel
theorem d_mo_quarter_111 : decode prog_7_method_3_code 111 = .ok (.ireturn, 1) := by decide +kernel
theorem d_mo_quarter_112 : decode prog_7_method_3_code 112 = .ok (.sipush 707, 3) := by decide +kernel
theorem d_mo_quarter_115 : decode prog_7_method_3_code 115 = .ok (.ireturn, 1) := by decide +kernel
theorem d_mo_quarter_116 : decode prog_7_method_3_code 116 = .ok (.sipush 634, 3) := by decide +kernel
theorem d_mo_quarter_119 : decode prog_7_method_3_code 119 = .ok (.ireturn, 1) := by decide +kernel
theorem d_mo_quarter_120 : decode prog_7_method_3_code 120 = .ok (.sipush 556, 3) := by decide +kernel
theorem d_mo_quarter_123 : decode prog_7_method_3_code 123 = .ok (.ireturn, 1) := by decide +kernel
theorem d_mo_quarter_124 : decode prog_7_method_3_code 124 = .ok (.sipush 471, 3) := by decide +kernel
theorem d_mo_quarter_127 : decode prog_7_method_3_code 127 = .ok (.ireturn, 1) := by decide +kernel
theorem d_mo_quarter_128 : decode prog_7_method_3_code 128 = .ok (.sipush 383, 3) := by decide +kernel
theorem d_mo_quarter_131 : decode prog_7_method_3_code 131 = .ok (.ireturn, 1) := by decide +kernel
theorem d_mo_quarter_132 : decode prog_7_method_3_code 132 = .ok (.sipush 290, 3) := by decide +kernel
theorem d_mo_quarter_135 : decode prog_7_method_3_code 135 = .ok (.ireturn, 1) := by decide +kernel
theorem d_mo_quarter_136 : decode prog_7_method_3_code 136 = .ok (.sipush 195, 3) := by decide +kernel
theorem d_mo_quarter_139 : decode prog_7_method_3_code 139 = .ok (.ireturn, 1) := by decide +kernel
theorem d_mo_quarter_140 : decode prog_7_method_3_code 140 = .ok (.bipush 98, 2) := by decide +kernel
theorem d_mo_quarter_142 : decode prog_7_method_3_code 142 = .ok (.ireturn, 1) := by decide +kernel
theorem d_mo_quarter_143 : decode prog_7_method_3_code 143 = .ok (.iconst 0, 1) := by decide +kernel
theorem d_mo_quarter_144 : decode prog_7_method_3_code 144 = .ok (.ireturn, 1) := by decide +kernel
theorem d_mo_within_0 : decode prog_7_method_4_code 0 = .ok (.iload_n 0, 1) := by decide +kernel
theorem d_mo_within_1 : decode prog_7_method_4_code 1 = .ok (.iload_n 1, 1) := by decide +kernel
theorem d_mo_within_2 : decode prog_7_method_4_code 2 = .ok (.if_icmp .lt 12, 3) := by decide +kernel
theorem d_mo_within_5 : decode prog_7_method_4_code 5 = .ok (.iload_n 0, 1) := by decide +kernel
theorem d_mo_within_6 : decode prog_7_method_4_code 6 = .ok (.iload_n 2, 1) := by decide +kernel
theorem d_mo_within_7 : decode prog_7_method_4_code 7 = .ok (.if_icmp .gt 7, 3) := by decide +kernel
theorem d_mo_within_10 : decode prog_7_method_4_code 10 = .ok (.iconst 1, 1) := by decide +kernel
theorem d_mo_within_11 : decode prog_7_method_4_code 11 = .ok (.goto 4, 3) := by decide +kernel
theorem d_mo_within_14 : decode prog_7_method_4_code 14 = .ok (.iconst 0, 1) := by decide +kernel
theorem d_mo_within_15 : decode prog_7_method_4_code 15 = .ok (.ireturn, 1) := by decide +kernel
theorem d_mo_isIn_0 : decode prog_7_method_5_code 0 = .ok (.iload_n 0, 1) := by decide +kernel
theorem d_mo_isIn_1 : decode prog_7_method_5_code 1 = .ok (.iload_n 1, 1) := by decide +kernel
theorem d_mo_isIn_2 : decode prog_7_method_5_code 2 = .ok (.ishr, 1) := by decide +kernel
theorem d_mo_isIn_3 : decode prog_7_method_5_code 3 = .ok (.iconst 1, 1) := by decide +kernel
theorem d_mo_isIn_4 : decode prog_7_method_5_code 4 = .ok (.iand, 1) := by decide +kernel
theorem d_mo_isIn_5 : decode prog_7_method_5_code 5 = .ok (.iconst 1, 1) := by decide +kernel
theorem d_mo_isIn_6 : decode prog_7_method_5_code 6 = .ok (.if_icmp .ne 7, 3) := by decide +kernel
theorem d_mo_isIn_9 : decode prog_7_method_5_code 9 = .ok (.iconst 1, 1) := by decide +kernel
theorem d_mo_isIn_10 : decode prog_7_method_5_code 10 = .ok (.goto 4, 3) := by decide +kernel
theorem d_mo_isIn_13 : decode prog_7_method_5_code 13 = .ok (.iconst 0, 1) := by decide +kernel
theorem d_mo_isIn_14 : decode prog_7_method_5_code 14 = .ok (.ireturn, 1) := by decide +kernel
theorem d_mo_size_0 : decode prog_7_method_6_code 0 = .ok (.iconst 0, 1) := by decide +kernel
theorem d_mo_size_1 : decode prog_7_method_6_code 1 = .ok (.istore_n 1, 1) := by decide +kernel
theorem d_mo_size_2 : decode prog_7_method_6_code 2 = .ok (.iconst 0, 1) := by decide +kernel
theorem d_mo_size_3 : decode prog_7_method_6_code 3 = .ok (.istore_n 2, 1) := by decide +kernel
theorem d_mo_size_4 : decode prog_7_method_6_code 4 = .ok (.iload_n 2, 1) := by decide +kernel
theorem d_mo_size_5 : decode prog_7_method_6_code 5 = .ok (.bipush 16, 2) := by decide +kernel
theorem d_mo_size_7 : decode prog_7_method_6_code 7 = .ok (.if_icmp .ge 17, 3) := by decide +kernel
theorem d_mo_size_10 : decode prog_7_method_6_code 10 = .ok (.iload_n 1, 1) := by decide +kernel
theorem d_mo_size_11 : decode prog_7_method_6_code 11 = .ok (.iload_n 0, 1) := by decide +kernel
theorem d_mo_size_12 : decode prog_7_method_6_code 12 = .ok (.iload_n 2, 1) := by decide +kernel
theorem d_mo_size_13 : decode prog_7_method_6_code 13 = .ok (.ishr, 1) := by decide +kernel
theorem d_mo_size_14 : decode prog_7_method_6_code 14 = .ok (.iconst 1, 1) := by decide +kernel
theorem d_mo_size_15 : decode prog_7_method_6_code 15 = .ok (.iand, 1) := by decide +kernel
theorem d_mo_size_16 : decode prog_7_method_6_code 16 = .ok (.iadd, 1) := by decide +kernel
theorem d_mo_size_17 : decode prog_7_method_6_code 17 = .ok (.istore_n 1, 1) := by decide +kernel
theorem d_mo_size_18 : decode prog_7_method_6_code 18 = .ok (.iinc 2 1, 3) := by decide +kernel
theorem d_mo_size_21 : decode prog_7_method_6_code 21 = .ok (.goto (-17), 3) := by decide +kernel
theorem d_mo_size_24 : decode prog_7_method_6_code 24 = .ok (.iload_n 1, 1) := by decide +kernel
theorem d_mo_size_25 : decode prog_7_method_6_code 25 = .ok (.ireturn, 1) := by decide +kernel
theorem d_mo_by_0 : decode prog_7_method_7_code 0 = .ok (.iload_n 0, 1) := by decide +kernel
theorem d_mo_by_1 : decode prog_7_method_7_code 1 = .ok (.iload_n 1, 1) := by decide +kernel
theorem d_mo_by_2 : decode prog_7_method_7_code 2 = .ok (.idiv, 1) := by decide +kernel
theorem d_mo_by_3 : decode prog_7_method_7_code 3 = .ok (.istore_n 2, 1) := by decide +kernel
theorem d_mo_by_4 : decode prog_7_method_7_code 4 = .ok (.iload_n 0, 1) := by decide +kernel
theorem d_mo_by_5 : decode prog_7_method_7_code 5 = .ok (.iload_n 1, 1) := by decide +kernel
theorem d_mo_by_6 : decode prog_7_method_7_code 6 = .ok (.irem, 1) := by decide +kernel
theorem d_mo_by_7 : decode prog_7_method_7_code 7 = .ok (.ifCond .ge 9, 3) := by decide +kernel
theorem d_mo_by_10 : decode prog_7_method_7_code 10 = .ok (.iload_n 2, 1) := by decide +kernel
theorem d_mo_by_11 : decode prog_7_method_7_code 11 = .ok (.iconst 1, 1) := by decide +kernel
theorem d_mo_by_12 : decode prog_7_method_7_code 12 = .ok (.isub, 1) := by decide +kernel
theorem d_mo_by_13 : decode prog_7_method_7_code 13 = .ok (.goto 4, 3) := by decide +kernel
theorem d_mo_by_16 : decode prog_7_method_7_code 16 = .ok (.iload_n 2, 1) := by decide +kernel
theorem d_mo_by_17 : decode prog_7_method_7_code 17 = .ok (.ireturn, 1) := by decide +kernel
theorem d_mo_letter_0 : decode prog_7_method_8_code 0 = .ok (.iload_n 1, 1) := by decide +kernel
theorem d_mo_letter_1 : decode prog_7_method_8_code 1 = .ok (.bipush 32, 2) := by decide +kernel
theorem d_mo_letter_3 : decode prog_7_method_8_code 3 = .ok (.bipush 126, 2) := by decide +kernel
theorem d_mo_letter_5 : decode prog_7_method_8_code 5 = .ok (.invokestatic 93, 3) := by decide +kernel
theorem d_mo_letter_8 : decode prog_7_method_8_code 8 = .ok (.ifCond .ne 7, 3) := by decide +kernel
theorem d_mo_letter_11 : decode prog_7_method_8_code 11 = .ok (.sipush (-10102), 3) := by decide +kernel
theorem d_mo_letter_14 : decode prog_7_method_8_code 14 = .ok (.ireturn, 1) := by decide +kernel
theorem d_mo_letter_15 : decode prog_7_method_8_code 15 = .ok (.aload_n 0, 1) := by decide +kernel
theorem d_mo_letter_16 : decode prog_7_method_8_code 16 = .ok (.getfield 97, 3) := by decide +kernel
theorem d_mo_letter_19 : decode prog_7_method_8_code 19 = .ok (.bipush 96, 2) := by decide +kernel
theorem d_mo_letter_21 : decode prog_7_method_8_code 21 = .ok (.if_icmp .ne 7, 3) := by decide +kernel
theorem d_mo_letter_24 : decode prog_7_method_8_code 24 = .ok (.sipush (-10104), 3) := by decide +kernel
theorem d_mo_letter_27 : decode prog_7_method_8_code 27 = .ok (.ireturn, 1) := by decide +kernel
theorem d_mo_letter_28 : decode prog_7_method_8_code 28 = .ok (.aload_n 0, 1) := by decide +kernel
theorem d_mo_letter_29 : decode prog_7_method_8_code 29 = .ok (.getfield 40, 3) := by decide +kernel
theorem d_mo_letter_32 : decode prog_7_method_8_code 32 = .ok (.aload_n 0, 1) := by decide +kernel
theorem d_mo_letter_33 : decode prog_7_method_8_code 33 = .ok (.getfield 97, 3) := by decide +kernel
theorem d_mo_letter_36 : decode prog_7_method_8_code 36 = .ok (.iload_n 1, 1) := by decide +kernel
theorem d_mo_letter_37 : decode prog_7_method_8_code 37 = .ok (.i2b, 1) := by decide +kernel
theorem d_mo_letter_38 : decode prog_7_method_8_code 38 = .ok (.bastore, 1) := by decide +kernel
theorem d_mo_letter_39 : decode prog_7_method_8_code 39 = .ok (.aload_n 0, 1) := by decide +kernel
theorem d_mo_letter_40 : decode prog_7_method_8_code 40 = .ok (.dup, 1) := by decide +kernel
theorem d_mo_letter_41 : decode prog_7_method_8_code 41 = .ok (.getfield 97, 3) := by decide +kernel
theorem d_mo_letter_44 : decode prog_7_method_8_code 44 = .ok (.iconst 1, 1) := by decide +kernel
theorem d_mo_letter_45 : decode prog_7_method_8_code 45 = .ok (.iadd, 1) := by decide +kernel
theorem d_mo_letter_46 : decode prog_7_method_8_code 46 = .ok (.putfield 97, 3) := by decide +kernel
theorem d_mo_letter_49 : decode prog_7_method_8_code 49 = .ok (.aload_n 0, 1) := by decide +kernel
theorem d_mo_letter_50 : decode prog_7_method_8_code 50 = .ok (.getfield 97, 3) := by decide +kernel
theorem d_mo_letter_53 : decode prog_7_method_8_code 53 = .ok (.ireturn, 1) := by decide +kernel
theorem d_mo_blank_0 : decode prog_7_method_9_code 0 = .ok (.aload_n 0, 1) := by decide +kernel
theorem d_mo_blank_1 : decode prog_7_method_9_code 1 = .ok (.getfield 97, 3) := by decide +kernel
theorem d_mo_blank_4 : decode prog_7_method_9_code 4 = .ok (.istore_n 1, 1) := by decide +kernel
theorem d_mo_blank_5 : decode prog_7_method_9_code 5 = .ok (.aload_n 0, 1) := by decide +kernel
theorem d_mo_blank_6 : decode prog_7_method_9_code 6 = .ok (.iconst 0, 1) := by decide +kernel
theorem d_mo_blank_7 : decode prog_7_method_9_code 7 = .ok (.putfield 97, 3) := by decide +kernel
theorem d_mo_blank_10 : decode prog_7_method_9_code 10 = .ok (.iload_n 1, 1) := by decide +kernel
theorem d_mo_blank_11 : decode prog_7_method_9_code 11 = .ok (.ireturn, 1) := by decide +kernel
theorem d_mo_kindBy_0 : decode prog_7_method_10_code 0 = .ok (.iload_n 0, 1) := by decide +kernel
theorem d_mo_kindBy_1 : decode prog_7_method_10_code 1 = .ok (.lookupswitch 61 #[(98, 55), (102, 57), (112, 51), (115, 53), (116, 59)], 51) := by decide +kernel
theorem d_mo_kindBy_52 : decode prog_7_method_10_code 52 = .ok (.iconst 0, 1) := by decide +kernel
theorem d_mo_kindBy_53 : decode prog_7_method_10_code 53 = .ok (.ireturn, 1) := by decide +kernel
theorem d_mo_kindBy_54 : decode prog_7_method_10_code 54 = .ok (.iconst 1, 1) := by decide +kernel
theorem d_mo_kindBy_55 : decode prog_7_method_10_code 55 = .ok (.ireturn, 1) := by decide +kernel
theorem d_mo_kindBy_56 : decode prog_7_method_10_code 56 = .ok (.iconst 2, 1) := by decide +kernel
theorem d_mo_kindBy_57 : decode prog_7_method_10_code 57 = .ok (.ireturn, 1) := by decide +kernel
theorem d_mo_kindBy_58 : decode prog_7_method_10_code 58 = .ok (.iconst 3, 1) := by decide +kernel
theorem d_mo_kindBy_59 : decode prog_7_method_10_code 59 = .ok (.ireturn, 1) := by decide +kernel
theorem d_mo_kindBy_60 : decode prog_7_method_10_code 60 = .ok (.iconst 4, 1) := by decide +kernel
theorem d_mo_kindBy_61 : decode prog_7_method_10_code 61 = .ok (.ireturn, 1) := by decide +kernel
theorem d_mo_kindBy_62 : decode prog_7_method_10_code 62 = .ok (.sipush (-10001), 3) := by decide +kernel
theorem d_mo_kindBy_65 : decode prog_7_method_10_code 65 = .ok (.ireturn, 1) := by decide +kernel
theorem d_mo_at_0 : decode prog_7_method_11_code 0 = .ok (.iload_n 1, 1) := by decide +kernel
theorem d_mo_at_1 : decode prog_7_method_11_code 1 = .ok (.aload_n 0, 1) := by decide +kernel
theorem d_mo_at_2 : decode prog_7_method_11_code 2 = .ok (.getfield 97, 3) := by decide +kernel
theorem d_mo_at_5 : decode prog_7_method_11_code 5 = .ok (.if_icmp .ge 12, 3) := by decide +kernel
theorem d_mo_at_8 : decode prog_7_method_11_code 8 = .ok (.aload_n 0, 1) := by decide +kernel
theorem d_mo_at_9 : decode prog_7_method_11_code 9 = .ok (.getfield 40, 3) := by decide +kernel
theorem d_mo_at_12 : decode prog_7_method_11_code 12 = .ok (.iload_n 1, 1) := by decide +kernel
theorem d_mo_at_13 : decode prog_7_method_11_code 13 = .ok (.baload, 1) := by decide +kernel
theorem d_mo_at_14 : decode prog_7_method_11_code 14 = .ok (.goto 4, 3) := by decide +kernel
theorem d_mo_at_17 : decode prog_7_method_11_code 17 = .ok (.iconst 0, 1) := by decide +kernel
theorem d_mo_at_18 : decode prog_7_method_11_code 18 = .ok (.ireturn, 1) := by decide +kernel
theorem d_mo_isFigure_0 : decode prog_7_method_12_code 0 = .ok (.aload_n 0, 1) := by decide +kernel
theorem d_mo_isFigure_1 : decode prog_7_method_12_code 1 = .ok (.iload_n 1, 1) := by decide +kernel
theorem d_mo_isFigure_2 : decode prog_7_method_12_code 2 = .ok (.invokevirtual 101, 3) := by decide +kernel
theorem d_mo_isFigure_5 : decode prog_7_method_12_code 5 = .ok (.bipush 48, 2) := by decide +kernel
theorem d_mo_isFigure_7 : decode prog_7_method_12_code 7 = .ok (.isub, 1) := by decide +kernel
theorem d_mo_isFigure_8 : decode prog_7_method_12_code 8 = .ok (.iconst 0, 1) := by decide +kernel
theorem d_mo_isFigure_9 : decode prog_7_method_12_code 9 = .ok (.bipush 9, 2) := by decide +kernel
theorem d_mo_isFigure_11 : decode prog_7_method_12_code 11 = .ok (.invokestatic 93, 3) := by decide +kernel
theorem d_mo_isFigure_14 : decode prog_7_method_12_code 14 = .ok (.ireturn, 1) := by decide +kernel
theorem d_mo_readNumber_0 : decode prog_7_method_13_code 0 = .ok (.aload_n 0, 1) := by decide +kernel
theorem d_mo_readNumber_1 : decode prog_7_method_13_code 1 = .ok (.iload_n 1, 1) := by decide +kernel
theorem d_mo_readNumber_2 : decode prog_7_method_13_code 2 = .ok (.invokevirtual 104, 3) := by decide +kernel
theorem d_mo_readNumber_5 : decode prog_7_method_13_code 5 = .ok (.ifCond .eq 18, 3) := by decide +kernel
theorem d_mo_readNumber_8 : decode prog_7_method_13_code 8 = .ok (.aload_n 0, 1) := by decide +kernel
theorem d_mo_readNumber_9 : decode prog_7_method_13_code 9 = .ok (.iload_n 1, 1) := by decide +kernel
theorem d_mo_readNumber_10 : decode prog_7_method_13_code 10 = .ok (.invokevirtual 101, 3) := by decide +kernel
theorem d_mo_readNumber_13 : decode prog_7_method_13_code 13 = .ok (.bipush 48, 2) := by decide +kernel
theorem d_mo_readNumber_15 : decode prog_7_method_13_code 15 = .ok (.isub, 1) := by decide +kernel
theorem d_mo_readNumber_16 : decode prog_7_method_13_code 16 = .ok (.iload_n 3, 1) := by decide +kernel
theorem d_mo_readNumber_17 : decode prog_7_method_13_code 17 = .ok (.bipush 10, 2) := by decide +kernel
theorem d_mo_readNumber_19 : decode prog_7_method_13_code 19 = .ok (.idiv, 1) := by decide +kernel
theorem d_mo_readNumber_20 : decode prog_7_method_13_code 20 = .ok (.if_icmp .le 10, 3) := by decide +kernel
theorem d_mo_readNumber_23 : decode prog_7_method_13_code 23 = .ok (.aload_n 0, 1) := by decide +kernel
theorem d_mo_readNumber_24 : decode prog_7_method_13_code 24 = .ok (.iconst 1, 1) := by decide +kernel
theorem d_mo_readNumber_25 : decode prog_7_method_13_code 25 = .ok (.putfield 108, 3) := by decide +kernel
theorem d_mo_readNumber_28 : decode prog_7_method_13_code 28 = .ok (.iload_n 1, 1) := by decide +kernel
theorem d_mo_readNumber_29 : decode prog_7_method_13_code 29 = .ok (.ireturn, 1) := by decide +kernel
theorem d_mo_readNumber_30 : decode prog_7_method_13_code 30 = .ok (.aload_n 0, 1) := by decide +kernel
theorem d_mo_readNumber_31 : decode prog_7_method_13_code 31 = .ok (.bipush 10, 2) := by decide +kernel
theorem d_mo_readNumber_33 : decode prog_7_method_13_code 33 = .ok (.aload_n 0, 1) := by decide +kernel
theorem d_mo_readNumber_34 : decode prog_7_method_13_code 34 = .ok (.iload_n 1, 1) := by decide +kernel
theorem d_mo_readNumber_35 : decode prog_7_method_13_code 35 = .ok (.invokevirtual 101, 3) := by decide +kernel
theorem d_mo_readNumber_38 : decode prog_7_method_13_code 38 = .ok (.bipush 48, 2) := by decide +kernel
theorem d_mo_readNumber_40 : decode prog_7_method_13_code 40 = .ok (.isub, 1) := by decide +kernel
theorem d_mo_readNumber_41 : decode prog_7_method_13_code 41 = .ok (.imul, 1) := by decide +kernel
theorem d_mo_readNumber_42 : decode prog_7_method_13_code 42 = .ok (.aload_n 0, 1) := by decide +kernel
theorem d_mo_readNumber_43 : decode prog_7_method_13_code 43 = .ok (.iload_n 1, 1) := by decide +kernel
theorem d_mo_readNumber_44 : decode prog_7_method_13_code 44 = .ok (.iconst 1, 1) := by decide +kernel
theorem d_mo_readNumber_45 : decode prog_7_method_13_code 45 = .ok (.iadd, 1) := by decide +kernel
theorem d_mo_readNumber_46 : decode prog_7_method_13_code 46 = .ok (.invokevirtual 101, 3) := by decide +kernel
theorem d_mo_readNumber_49 : decode prog_7_method_13_code 49 = .ok (.iadd, 1) := by decide +kernel
theorem d_mo_readNumber_50 : decode prog_7_method_13_code 50 = .ok (.bipush 48, 2) := by decide +kernel
theorem d_mo_readNumber_52 : decode prog_7_method_13_code 52 = .ok (.isub, 1) := by decide +kernel
theorem d_mo_readNumber_53 : decode prog_7_method_13_code 53 = .ok (.putfield 112, 3) := by decide +kernel
theorem d_mo_readNumber_56 : decode prog_7_method_13_code 56 = .ok (.aload_n 0, 1) := by decide +kernel
theorem d_mo_readNumber_57 : decode prog_7_method_13_code 57 = .ok (.iload_n 1, 1) := by decide +kernel
theorem d_mo_readNumber_58 : decode prog_7_method_13_code 58 = .ok (.iconst 1, 1) := by decide +kernel
theorem d_mo_readNumber_59 : decode prog_7_method_13_code 59 = .ok (.iadd, 1) := by decide +kernel
theorem d_mo_readNumber_60 : decode prog_7_method_13_code 60 = .ok (.invokevirtual 104, 3) := by decide +kernel
theorem d_mo_readNumber_63 : decode prog_7_method_13_code 63 = .ok (.ifCond .eq 15, 3) := by decide +kernel
theorem d_mo_readNumber_66 : decode prog_7_method_13_code 66 = .ok (.aload_n 0, 1) := by decide +kernel
theorem d_mo_readNumber_67 : decode prog_7_method_13_code 67 = .ok (.getfield 112, 3) := by decide +kernel
theorem d_mo_readNumber_70 : decode prog_7_method_13_code 70 = .ok (.iload_n 2, 1) := by decide +kernel
theorem d_mo_readNumber_71 : decode prog_7_method_13_code 71 = .ok (.iload_n 3, 1) := by decide +kernel
theorem d_mo_readNumber_72 : decode prog_7_method_13_code 72 = .ok (.invokestatic 93, 3) := by decide +kernel
theorem d_mo_readNumber_75 : decode prog_7_method_13_code 75 = .ok (.ifCond .ne 12, 3) := by decide +kernel
theorem d_mo_readNumber_78 : decode prog_7_method_13_code 78 = .ok (.aload_n 0, 1) := by decide +kernel
theorem d_mo_readNumber_79 : decode prog_7_method_13_code 79 = .ok (.iconst 1, 1) := by decide +kernel
theorem d_mo_readNumber_80 : decode prog_7_method_13_code 80 = .ok (.putfield 108, 3) := by decide +kernel
theorem d_mo_readNumber_83 : decode prog_7_method_13_code 83 = .ok (.iload_n 1, 1) := by decide +kernel
theorem d_mo_readNumber_84 : decode prog_7_method_13_code 84 = .ok (.iconst 1, 1) := by decide +kernel
theorem d_mo_readNumber_85 : decode prog_7_method_13_code 85 = .ok (.iadd, 1) := by decide +kernel
theorem d_mo_readNumber_86 : decode prog_7_method_13_code 86 = .ok (.ireturn, 1) := by decide +kernel
theorem d_mo_readNumber_87 : decode prog_7_method_13_code 87 = .ok (.iload_n 1, 1) := by decide +kernel
theorem d_mo_readNumber_88 : decode prog_7_method_13_code 88 = .ok (.iconst 2, 1) := by decide +kernel
theorem d_mo_readNumber_89 : decode prog_7_method_13_code 89 = .ok (.iadd, 1) := by decide +kernel
theorem d_mo_readNumber_90 : decode prog_7_method_13_code 90 = .ok (.ireturn, 1) := by decide +kernel
theorem d_mo_readWave_0 : decode prog_7_method_14_code 0 = .ok (.bipush 9, 2) := by decide +kernel
theorem d_mo_readWave_2 : decode prog_7_method_14_code 2 = .ok (.aload_n 0, 1) := by decide +kernel
theorem d_mo_readWave_3 : decode prog_7_method_14_code 3 = .ok (.getfield 115, 3) := by decide +kernel
theorem d_mo_readWave_6 : decode prog_7_method_14_code 6 = .ok (.imul, 1) := by decide +kernel
theorem d_mo_readWave_7 : decode prog_7_method_14_code 7 = .ok (.iconst 3, 1) := by decide +kernel
theorem d_mo_readWave_8 : decode prog_7_method_14_code 8 = .ok (.aload_n 0, 1) := by decide +kernel
theorem d_mo_readWave_9 : decode prog_7_method_14_code 9 = .ok (.getfield 56, 3) := by decide +kernel
theorem d_mo_readWave_12 : decode prog_7_method_14_code 12 = .ok (.aload_n 0, 1) := by decide +kernel
theorem d_mo_readWave_13 : decode prog_7_method_14_code 13 = .ok (.getfield 115, 3) := by decide +kernel
theorem d_mo_readWave_16 : decode prog_7_method_14_code 16 = .ok (.iaload, 1) := by decide +kernel
theorem d_mo_readWave_17 : decode prog_7_method_14_code 17 = .ok (.imul, 1) := by decide +kernel
theorem d_mo_readWave_18 : decode prog_7_method_14_code 18 = .ok (.iadd, 1) := by decide +kernel
theorem d_mo_readWave_19 : decode prog_7_method_14_code 19 = .ok (.istore_n 2, 1) := by decide +kernel
theorem d_mo_readWave_20 : decode prog_7_method_14_code 20 = .ok (.iload_n 1, 1) := by decide +kernel
theorem d_mo_readWave_21 : decode prog_7_method_14_code 21 = .ok (.istore_n 3, 1) := by decide +kernel
theorem d_mo_readWave_22 : decode prog_7_method_14_code 22 = .ok (.iconst 0, 1) := by decide +kernel
theorem d_mo_readWave_23 : decode prog_7_method_14_code 23 = .ok (.istore 4, 2) := by decide +kernel
theorem d_mo_readWave_25 : decode prog_7_method_14_code 25 = .ok (.iload 4, 2) := by decide +kernel
theorem d_mo_readWave_27 : decode prog_7_method_14_code 27 = .ok (.iconst 3, 1) := by decide +kernel
theorem d_mo_readWave_28 : decode prog_7_method_14_code 28 = .ok (.if_icmp .ge 58, 3) := by decide +kernel
theorem d_mo_readWave_31 : decode prog_7_method_14_code 31 = .ok (.aload_n 0, 1) := by decide +kernel
theorem d_mo_readWave_32 : decode prog_7_method_14_code 32 = .ok (.getfield 108, 3) := by decide +kernel
theorem d_mo_readWave_35 : decode prog_7_method_14_code 35 = .ok (.ifCond .ne 51, 3) := by decide +kernel
theorem d_mo_readWave_38 : decode prog_7_method_14_code 38 = .ok (.aload_n 0, 1) := by decide +kernel
theorem d_mo_readWave_39 : decode prog_7_method_14_code 39 = .ok (.iload_n 3, 1) := by decide +kernel
theorem d_mo_readWave_40 : decode prog_7_method_14_code 40 = .ok (.iload 4, 2) := by decide +kernel
theorem d_mo_readWave_42 : decode prog_7_method_14_code 42 = .ok (.ifCond .ne 7, 3) := by decide +kernel
theorem d_mo_readWave_45 : decode prog_7_method_14_code 45 = .ok (.iconst 1, 1) := by decide +kernel
theorem d_mo_readWave_46 : decode prog_7_method_14_code 46 = .ok (.goto 4, 3) := by decide +kernel
theorem d_mo_readWave_49 : decode prog_7_method_14_code 49 = .ok (.iconst 0, 1) := by decide +kernel
theorem d_mo_readWave_50 : decode prog_7_method_14_code 50 = .ok (.iload 4, 2) := by decide +kernel
theorem d_mo_readWave_52 : decode prog_7_method_14_code 52 = .ok (.iconst 2, 1) := by decide +kernel
theorem d_mo_readWave_53 : decode prog_7_method_14_code 53 = .ok (.if_icmp .ne 8, 3) := by decide +kernel
theorem d_mo_readWave_56 : decode prog_7_method_14_code 56 = .ok (.bipush 63, 2) := by decide +kernel
theorem d_mo_readWave_58 : decode prog_7_method_14_code 58 = .ok (.goto 5, 3) := by decide +kernel
theorem d_mo_readWave_61 : decode prog_7_method_14_code 61 = .ok (.bipush 99, 2) := by decide +kernel
theorem d_mo_readWave_63 : decode prog_7_method_14_code 63 = .ok (.invokevirtual 118, 3) := by decide +kernel
theorem d_mo_readWave_66 : decode prog_7_method_14_code 66 = .ok (.istore_n 3, 1) := by decide +kernel
theorem d_mo_readWave_67 : decode prog_7_method_14_code 67 = .ok (.aload_n 0, 1) := by decide +kernel
theorem d_mo_readWave_68 : decode prog_7_method_14_code 68 = .ok (.getfield 59, 3) := by decide +kernel
theorem d_mo_readWave_71 : decode prog_7_method_14_code 71 = .ok (.iload_n 2, 1) := by decide +kernel
theorem d_mo_readWave_72 : decode prog_7_method_14_code 72 = .ok (.iload 4, 2) := by decide +kernel
theorem d_mo_readWave_74 : decode prog_7_method_14_code 74 = .ok (.iadd, 1) := by decide +kernel
theorem d_mo_readWave_75 : decode prog_7_method_14_code 75 = .ok (.aload_n 0, 1) := by decide +kernel
theorem d_mo_readWave_76 : decode prog_7_method_14_code 76 = .ok (.getfield 112, 3) := by decide +kernel
theorem d_mo_readWave_79 : decode prog_7_method_14_code 79 = .ok (.iastore, 1) := by decide +kernel
theorem d_mo_readWave_80 : decode prog_7_method_14_code 80 = .ok (.iinc 4 1, 3) := by decide +kernel
theorem d_mo_readWave_83 : decode prog_7_method_14_code 83 = .ok (.goto (-58), 3) := by decide +kernel
theorem d_mo_readWave_86 : decode prog_7_method_14_code 86 = .ok (.aload_n 0, 1) := by decide +kernel
theorem d_mo_readWave_87 : decode prog_7_method_14_code 87 = .ok (.getfield 56, 3) := by decide +kernel
theorem d_mo_readWave_90 : decode prog_7_method_14_code 90 = .ok (.aload_n 0, 1) := by decide +kernel
theorem d_mo_readWave_91 : decode prog_7_method_14_code 91 = .ok (.getfield 115, 3) := by decide +kernel
theorem d_mo_readWave_94 : decode prog_7_method_14_code 94 = .ok (.dup2, 1) := by decide +kernel
theorem d_mo_readWave_95 : decode prog_7_method_14_code 95 = .ok (.iaload, 1) := by decide +kernel
theorem d_mo_readWave_96 : decode prog_7_method_14_code 96 = .ok (.iconst 1, 1) := by decide +kernel
theorem d_mo_readWave_97 : decode prog_7_method_14_code 97 = .ok (.iadd, 1) := by decide +kernel
theorem d_mo_readWave_98 : decode prog_7_method_14_code 98 = .ok (.iastore, 1) := by decide +kernel
theorem d_mo_readWave_99 : decode prog_7_method_14_code 99 = .ok (.iload_n 3, 1) := by decide +kernel
theorem d_mo_readWave_100 : decode prog_7_method_14_code 100 = .ok (.ireturn, 1) := by decide +kernel
theorem d_mo_readPort_0 : decode prog_7_method_15_code 0 = .ok (.aload_n 0, 1) := by decide +kernel
theorem d_mo_readPort_1 : decode prog_7_method_15_code 1 = .ok (.iload_n 1, 1) := by decide +kernel
theorem d_mo_readPort_2 : decode prog_7_method_15_code 2 = .ok (.invokevirtual 101, 3) := by decide +kernel
theorem d_mo_readPort_5 : decode prog_7_method_15_code 5 = .ok (.invokestatic 122, 3) := by decide +kernel
theorem d_mo_readPort_8 : decode prog_7_method_15_code 8 = .ok (.istore_n 2, 1) := by decide +kernel
theorem d_mo_readPort_9 : decode prog_7_method_15_code 9 = .ok (.iload_n 2, 1) := by decide +kernel
theorem d_mo_readPort_10 : decode prog_7_method_15_code 10 = .ok (.sipush (-10001), 3) := by decide +kernel
theorem d_mo_readPort_13 : decode prog_7_method_15_code 13 = .ok (.if_icmp .eq 15, 3) := by decide +kernel
theorem d_mo_readPort_16 : decode prog_7_method_15_code 16 = .ok (.iload_n 2, 1) := by decide +kernel
theorem d_mo_readPort_17 : decode prog_7_method_15_code 17 = .ok (.iconst 3, 1) := by decide +kernel
theorem d_mo_readPort_18 : decode prog_7_method_15_code 18 = .ok (.if_icmp .ne 17, 3) := by decide +kernel
theorem d_mo_readPort_21 : decode prog_7_method_15_code 21 = .ok (.aload_n 0, 1) := by decide +kernel
theorem d_mo_readPort_22 : decode prog_7_method_15_code 22 = .ok (.getfield 115, 3) := by decide +kernel
theorem d_mo_readPort_25 : decode prog_7_method_15_code 25 = .ok (.ifCond .ne 10, 3) := by decide +kernel
theorem d_mo_readPort_28 : decode prog_7_method_15_code 28 = .ok (.aload_n 0, 1) := by decide +kernel
theorem d_mo_readPort_29 : decode prog_7_method_15_code 29 = .ok (.iconst 1, 1) := by decide +kernel
theorem d_mo_readPort_30 : decode prog_7_method_15_code 30 = .ok (.putfield 108, 3) := by decide +kernel
theorem d_mo_readPort_33 : decode prog_7_method_15_code 33 = .ok (.iload_n 1, 1) := by decide +kernel
theorem d_mo_readPort_34 : decode prog_7_method_15_code 34 = .ok (.ireturn, 1) := by decide +kernel
theorem d_mo_readPort_35 : decode prog_7_method_15_code 35 = .ok (.aload_n 0, 1) := by decide +kernel
theorem d_mo_readPort_36 : decode prog_7_method_15_code 36 = .ok (.getfield 44, 3) := by decide +kernel
theorem d_mo_readPort_39 : decode prog_7_method_15_code 39 = .ok (.aload_n 0, 1) := by decide +kernel
theorem d_mo_readPort_40 : decode prog_7_method_15_code 40 = .ok (.getfield 115, 3) := by decide +kernel
theorem d_mo_readPort_43 : decode prog_7_method_15_code 43 = .ok (.iload_n 2, 1) := by decide +kernel
theorem d_mo_readPort_44 : decode prog_7_method_15_code 44 = .ok (.iastore, 1) := by decide +kernel
theorem d_mo_readPort_45 : decode prog_7_method_15_code 45 = .ok (.aload_n 0, 1) := by decide +kernel
theorem d_mo_readPort_46 : decode prog_7_method_15_code 46 = .ok (.getfield 56, 3) := by decide +kernel
theorem d_mo_readPort_49 : decode prog_7_method_15_code 49 = .ok (.aload_n 0, 1) := by decide +kernel
theorem d_mo_readPort_50 : decode prog_7_method_15_code 50 = .ok (.getfield 115, 3) := by decide +kernel
theorem d_mo_readPort_53 : decode prog_7_method_15_code 53 = .ok (.iconst 0, 1) := by decide +kernel
theorem d_mo_readPort_54 : decode prog_7_method_15_code 54 = .ok (.iastore, 1) := by decide +kernel
theorem d_mo_readPort_55 : decode prog_7_method_15_code 55 = .ok (.aload_n 0, 1) := by decide +kernel
theorem d_mo_readPort_56 : decode prog_7_method_15_code 56 = .ok (.getfield 53, 3) := by decide +kernel
theorem d_mo_readPort_59 : decode prog_7_method_15_code 59 = .ok (.aload_n 0, 1) := by decide +kernel
theorem d_mo_readPort_60 : decode prog_7_method_15_code 60 = .ok (.getfield 115, 3) := by decide +kernel
theorem d_mo_readPort_63 : decode prog_7_method_15_code 63 = .ok (.bipush 50, 2) := by decide +kernel
theorem d_mo_readPort_65 : decode prog_7_method_15_code 65 = .ok (.iastore, 1) := by decide +kernel
theorem d_mo_readPort_66 : decode prog_7_method_15_code 66 = .ok (.aload_n 0, 1) := by decide +kernel
theorem d_mo_readPort_67 : decode prog_7_method_15_code 67 = .ok (.iload_n 1, 1) := by decide +kernel
theorem d_mo_readPort_68 : decode prog_7_method_15_code 68 = .ok (.iconst 1, 1) := by decide +kernel
theorem d_mo_readPort_69 : decode prog_7_method_15_code 69 = .ok (.iadd, 1) := by decide +kernel
theorem d_mo_readPort_70 : decode prog_7_method_15_code 70 = .ok (.iconst 0, 1) := by decide +kernel
theorem d_mo_readPort_71 : decode prog_7_method_15_code 71 = .ok (.bipush 99, 2) := by decide +kernel
theorem d_mo_readPort_73 : decode prog_7_method_15_code 73 = .ok (.invokevirtual 118, 3) := by decide +kernel
theorem d_mo_readPort_76 : decode prog_7_method_15_code 76 = .ok (.istore_n 3, 1) := by decide +kernel
theorem d_mo_readPort_77 : decode prog_7_method_15_code 77 = .ok (.aload_n 0, 1) := by decide +kernel
theorem d_mo_readPort_78 : decode prog_7_method_15_code 78 = .ok (.getfield 47, 3) := by decide +kernel
theorem d_mo_readPort_81 : decode prog_7_method_15_code 81 = .ok (.aload_n 0, 1) := by decide +kernel
theorem d_mo_readPort_82 : decode prog_7_method_15_code 82 = .ok (.getfield 115, 3) := by decide +kernel
theorem d_mo_readPort_85 : decode prog_7_method_15_code 85 = .ok (.aload_n 0, 1) := by decide +kernel
theorem d_mo_readPort_86 : decode prog_7_method_15_code 86 = .ok (.getfield 112, 3) := by decide +kernel
theorem d_mo_readPort_89 : decode prog_7_method_15_code 89 = .ok (.iastore, 1) := by decide +kernel
theorem d_mo_readPort_90 : decode prog_7_method_15_code 90 = .ok (.aload_n 0, 1) := by decide +kernel
theorem d_mo_readPort_91 : decode prog_7_method_15_code 91 = .ok (.getfield 108, 3) := by decide +kernel
theorem d_mo_readPort_94 : decode prog_7_method_15_code 94 = .ok (.ifCond .ne 25, 3) := by decide +kernel
theorem d_mo_readPort_97 : decode prog_7_method_15_code 97 = .ok (.aload_n 0, 1) := by decide +kernel
theorem d_mo_readPort_98 : decode prog_7_method_15_code 98 = .ok (.iload_n 3, 1) := by decide +kernel
theorem d_mo_readPort_99 : decode prog_7_method_15_code 99 = .ok (.iconst 0, 1) := by decide +kernel
theorem d_mo_readPort_100 : decode prog_7_method_15_code 100 = .ok (.bipush 99, 2) := by decide +kernel
theorem d_mo_readPort_102 : decode prog_7_method_15_code 102 = .ok (.invokevirtual 118, 3) := by decide +kernel
theorem d_mo_readPort_105 : decode prog_7_method_15_code 105 = .ok (.istore_n 3, 1) := by decide +kernel
theorem d_mo_readPort_106 : decode prog_7_method_15_code 106 = .ok (.aload_n 0, 1) := by decide +kernel
theorem d_mo_readPort_107 : decode prog_7_method_15_code 107 = .ok (.getfield 50, 3) := by decide +kernel
theorem d_mo_readPort_110 : decode prog_7_method_15_code 110 = .ok (.aload_n 0, 1) := by decide +kernel
theorem d_mo_readPort_111 : decode prog_7_method_15_code 111 = .ok (.getfield 115, 3) := by decide +kernel
theorem d_mo_readPort_114 : decode prog_7_method_15_code 114 = .ok (.aload_n 0, 1) := by decide +kernel
theorem d_mo_readPort_115 : decode prog_7_method_15_code 115 = .ok (.getfield 112, 3) := by decide +kernel
theorem d_mo_readPort_118 : decode prog_7_method_15_code 118 = .ok (.iastore, 1) := by decide +kernel
theorem d_mo_readPort_119 : decode prog_7_method_15_code 119 = .ok (.aload_n 0, 1) := by decide +kernel
theorem d_mo_readPort_120 : decode prog_7_method_15_code 120 = .ok (.getfield 108, 3) := by decide +kernel
theorem d_mo_readPort_123 : decode prog_7_method_15_code 123 = .ok (.ifCond .ne 30, 3) := by decide +kernel
theorem d_mo_readPort_126 : decode prog_7_method_15_code 126 = .ok (.iload_n 2, 1) := by decide +kernel
theorem d_mo_readPort_127 : decode prog_7_method_15_code 127 = .ok (.iconst 3, 1) := by decide +kernel
theorem d_mo_readPort_128 : decode prog_7_method_15_code 128 = .ok (.if_icmp .ne 25, 3) := by decide +kernel
theorem d_mo_readPort_131 : decode prog_7_method_15_code 131 = .ok (.aload_n 0, 1) := by decide +kernel
theorem d_mo_readPort_132 : decode prog_7_method_15_code 132 = .ok (.iload_n 3, 1) := by decide +kernel
theorem d_mo_readPort_133 : decode prog_7_method_15_code 133 = .ok (.iconst 0, 1) := by decide +kernel
theorem d_mo_readPort_134 : decode prog_7_method_15_code 134 = .ok (.bipush 99, 2) := by decide +kernel
theorem d_mo_readPort_136 : decode prog_7_method_15_code 136 = .ok (.invokevirtual 118, 3) := by decide +kernel
theorem d_mo_readPort_139 : decode prog_7_method_15_code 139 = .ok (.istore_n 3, 1) := by decide +kernel
theorem d_mo_readPort_140 : decode prog_7_method_15_code 140 = .ok (.aload_n 0, 1) := by decide +kernel
theorem d_mo_readPort_141 : decode prog_7_method_15_code 141 = .ok (.getfield 53, 3) := by decide +kernel
theorem d_mo_readPort_144 : decode prog_7_method_15_code 144 = .ok (.aload_n 0, 1) := by decide +kernel
theorem d_mo_readPort_145 : decode prog_7_method_15_code 145 = .ok (.getfield 115, 3) := by decide +kernel
theorem d_mo_readPort_148 : decode prog_7_method_15_code 148 = .ok (.aload_n 0, 1) := by decide +kernel
theorem d_mo_readPort_149 : decode prog_7_method_15_code 149 = .ok (.getfield 112, 3) := by decide +kernel
theorem d_mo_readPort_152 : decode prog_7_method_15_code 152 = .ok (.iastore, 1) := by decide +kernel
theorem d_mo_readPort_153 : decode prog_7_method_15_code 153 = .ok (.aload_n 0, 1) := by decide +kernel
theorem d_mo_readPort_154 : decode prog_7_method_15_code 154 = .ok (.getfield 108, 3) := by decide +kernel
theorem d_mo_readPort_157 : decode prog_7_method_15_code 157 = .ok (.ifCond .ne 50, 3) := by decide +kernel
theorem d_mo_readPort_160 : decode prog_7_method_15_code 160 = .ok (.iload_n 2, 1) := by decide +kernel
theorem d_mo_readPort_161 : decode prog_7_method_15_code 161 = .ok (.iconst 3, 1) := by decide +kernel
theorem d_mo_readPort_162 : decode prog_7_method_15_code 162 = .ok (.if_icmp .eq 45, 3) := by decide +kernel
theorem d_mo_readPort_165 : decode prog_7_method_15_code 165 = .ok (.aload_n 0, 1) := by decide +kernel
theorem d_mo_readPort_166 : decode prog_7_method_15_code 166 = .ok (.getfield 56, 3) := by decide +kernel
theorem d_mo_readPort_169 : decode prog_7_method_15_code 169 = .ok (.aload_n 0, 1) := by decide +kernel
theorem d_mo_readPort_170 : decode prog_7_method_15_code 170 = .ok (.getfield 115, 3) := by decide +kernel
theorem d_mo_readPort_173 : decode prog_7_method_15_code 173 = .ok (.iaload, 1) := by decide +kernel
theorem d_mo_readPort_174 : decode prog_7_method_15_code 174 = .ok (.iconst 3, 1) := by decide +kernel
theorem d_mo_readPort_175 : decode prog_7_method_15_code 175 = .ok (.if_icmp .ge 32, 3) := by decide +kernel
theorem d_mo_readPort_178 : decode prog_7_method_15_code 178 = .ok (.aload_n 0, 1) := by decide +kernel
theorem d_mo_readPort_179 : decode prog_7_method_15_code 179 = .ok (.getfield 56, 3) := by decide +kernel
theorem d_mo_readPort_182 : decode prog_7_method_15_code 182 = .ok (.aload_n 0, 1) := by decide +kernel
theorem d_mo_readPort_183 : decode prog_7_method_15_code 183 = .ok (.getfield 115, 3) := by decide +kernel
theorem d_mo_readPort_186 : decode prog_7_method_15_code 186 = .ok (.iaload, 1) := by decide +kernel
theorem d_mo_readPort_187 : decode prog_7_method_15_code 187 = .ok (.ifCond .eq 11, 3) := by decide +kernel
theorem d_mo_readPort_190 : decode prog_7_method_15_code 190 = .ok (.aload_n 0, 1) := by decide +kernel
theorem d_mo_readPort_191 : decode prog_7_method_15_code 191 = .ok (.iload_n 3, 1) := by decide +kernel
theorem d_mo_readPort_192 : decode prog_7_method_15_code 192 = .ok (.invokevirtual 104, 3) := by decide +kernel
theorem d_mo_readPort_195 : decode prog_7_method_15_code 195 = .ok (.ifCond .eq 12, 3) := by decide +kernel
theorem d_mo_readPort_198 : decode prog_7_method_15_code 198 = .ok (.aload_n 0, 1) := by decide +kernel
theorem d_mo_readPort_199 : decode prog_7_method_15_code 199 = .ok (.iload_n 3, 1) := by decide +kernel
theorem d_mo_readPort_200 : decode prog_7_method_15_code 200 = .ok (.invokevirtual 125, 3) := by decide +kernel
theorem d_mo_readPort_203 : decode prog_7_method_15_code 203 = .ok (.istore_n 3, 1) := by decide +kernel
theorem d_mo_readPort_204 : decode prog_7_method_15_code 204 = .ok (.goto (-51), 3) := by decide +kernel
theorem d_mo_readPort_207 : decode prog_7_method_15_code 207 = .ok (.aload_n 0, 1) := by decide +kernel
theorem d_mo_readPort_208 : decode prog_7_method_15_code 208 = .ok (.dup, 1) := by decide +kernel
theorem d_mo_readPort_209 : decode prog_7_method_15_code 209 = .ok (.getfield 115, 3) := by decide +kernel
theorem d_mo_readPort_212 : decode prog_7_method_15_code 212 = .ok (.iconst 1, 1) := by decide +kernel
theorem d_mo_readPort_213 : decode prog_7_method_15_code 213 = .ok (.iadd, 1) := by decide +kernel
theorem d_mo_readPort_214 : decode prog_7_method_15_code 214 = .ok (.putfield 115, 3) := by decide +kernel
theorem d_mo_readPort_217 : decode prog_7_method_15_code 217 = .ok (.iload_n 3, 1) := by decide +kernel
theorem d_mo_readPort_218 : decode prog_7_method_15_code 218 = .ok (.ireturn, 1) := by decide +kernel
theorem d_mo_read_0 : decode prog_7_method_16_code 0 = .ok (.aload_n 0, 1) := by decide +kernel
theorem d_mo_read_1 : decode prog_7_method_16_code 1 = .ok (.iconst 0, 1) := by decide +kernel
theorem d_mo_read_2 : decode prog_7_method_16_code 2 = .ok (.putfield 128, 3) := by decide +kernel
theorem d_mo_read_5 : decode prog_7_method_16_code 5 = .ok (.aload_n 0, 1) := by decide +kernel
theorem d_mo_read_6 : decode prog_7_method_16_code 6 = .ok (.iconst 0, 1) := by decide +kernel
theorem d_mo_read_7 : decode prog_7_method_16_code 7 = .ok (.putfield 108, 3) := by decide +kernel
theorem d_mo_read_10 : decode prog_7_method_16_code 10 = .ok (.aload_n 0, 1) := by decide +kernel
theorem d_mo_read_11 : decode prog_7_method_16_code 11 = .ok (.iconst 0, 1) := by decide +kernel
theorem d_mo_read_12 : decode prog_7_method_16_code 12 = .ok (.putfield 115, 3) := by decide +kernel
theorem d_mo_read_15 : decode prog_7_method_16_code 15 = .ok (.aload_n 0, 1) := by decide +kernel
theorem d_mo_read_16 : decode prog_7_method_16_code 16 = .ok (.iconst 0, 1) := by decide +kernel
theorem d_mo_read_17 : decode prog_7_method_16_code 17 = .ok (.invokevirtual 131, 3) := by decide +kernel
theorem d_mo_read_20 : decode prog_7_method_16_code 20 = .ok (.istore_n 1, 1) := by decide +kernel
theorem d_mo_read_21 : decode prog_7_method_16_code 21 = .ok (.aload_n 0, 1) := by decide +kernel
theorem d_mo_read_22 : decode prog_7_method_16_code 22 = .ok (.getfield 108, 3) := by decide +kernel
theorem d_mo_read_25 : decode prog_7_method_16_code 25 = .ok (.ifCond .ne 32, 3) := by decide +kernel
theorem d_mo_read_28 : decode prog_7_method_16_code 28 = .ok (.aload_n 0, 1) := by decide +kernel
theorem d_mo_read_29 : decode prog_7_method_16_code 29 = .ok (.getfield 115, 3) := by decide +kernel
theorem d_mo_read_32 : decode prog_7_method_16_code 32 = .ok (.iconst 4, 1) := by decide +kernel
theorem d_mo_read_33 : decode prog_7_method_16_code 33 = .ok (.if_icmp .ge 24, 3) := by decide +kernel
theorem d_mo_read_36 : decode prog_7_method_16_code 36 = .ok (.aload_n 0, 1) := by decide +kernel
theorem d_mo_read_37 : decode prog_7_method_16_code 37 = .ok (.iload_n 1, 1) := by decide +kernel
theorem d_mo_read_38 : decode prog_7_method_16_code 38 = .ok (.invokevirtual 101, 3) := by decide +kernel
theorem d_mo_read_41 : decode prog_7_method_16_code 41 = .ok (.bipush 44, 2) := by decide +kernel
theorem d_mo_read_43 : decode prog_7_method_16_code 43 = .ok (.if_icmp .ne 14, 3) := by decide +kernel
theorem d_mo_read_46 : decode prog_7_method_16_code 46 = .ok (.aload_n 0, 1) := by decide +kernel
theorem d_mo_read_47 : decode prog_7_method_16_code 47 = .ok (.iload_n 1, 1) := by decide +kernel
theorem d_mo_read_48 : decode prog_7_method_16_code 48 = .ok (.iconst 1, 1) := by decide +kernel
theorem d_mo_read_49 : decode prog_7_method_16_code 49 = .ok (.iadd, 1) := by decide +kernel
theorem d_mo_read_50 : decode prog_7_method_16_code 50 = .ok (.invokevirtual 131, 3) := by decide +kernel
theorem d_mo_read_53 : decode prog_7_method_16_code 53 = .ok (.istore_n 1, 1) := by decide +kernel
theorem d_mo_read_54 : decode prog_7_method_16_code 54 = .ok (.goto (-33), 3) := by decide +kernel
theorem d_mo_read_57 : decode prog_7_method_16_code 57 = .ok (.aload_n 0, 1) := by decide +kernel
theorem d_mo_read_58 : decode prog_7_method_16_code 58 = .ok (.aload_n 0, 1) := by decide +kernel
theorem d_mo_read_59 : decode prog_7_method_16_code 59 = .ok (.getfield 108, 3) := by decide +kernel
theorem d_mo_read_62 : decode prog_7_method_16_code 62 = .ok (.ifCond .ne 15, 3) := by decide +kernel
theorem d_mo_read_65 : decode prog_7_method_16_code 65 = .ok (.iload_n 1, 1) := by decide +kernel
theorem d_mo_read_66 : decode prog_7_method_16_code 66 = .ok (.aload_n 0, 1) := by decide +kernel
theorem d_mo_read_67 : decode prog_7_method_16_code 67 = .ok (.getfield 97, 3) := by decide +kernel
theorem d_mo_read_70 : decode prog_7_method_16_code 70 = .ok (.if_icmp .ne 7, 3) := by decide +kernel
theorem d_mo_read_73 : decode prog_7_method_16_code 73 = .ok (.iconst 1, 1) := by decide +kernel
theorem d_mo_read_74 : decode prog_7_method_16_code 74 = .ok (.goto 4, 3) := by decide +kernel
theorem d_mo_read_77 : decode prog_7_method_16_code 77 = .ok (.iconst 0, 1) := by decide +kernel
theorem d_mo_read_78 : decode prog_7_method_16_code 78 = .ok (.putfield 128, 3) := by decide +kernel
theorem d_mo_read_81 : decode prog_7_method_16_code 81 = .ok (.iload_n 1, 1) := by decide +kernel
theorem d_mo_read_82 : decode prog_7_method_16_code 82 = .ok (.ireturn, 1) := by decide +kernel
theorem d_mo_fault_0 : decode prog_7_method_17_code 0 = .ok (.aload_n 0, 1) := by decide +kernel
theorem d_mo_fault_1 : decode prog_7_method_17_code 1 = .ok (.invokevirtual 134, 3) := by decide +kernel
theorem d_mo_fault_4 : decode prog_7_method_17_code 4 = .ok (.ireturn, 1) := by decide +kernel
theorem d_mo_ports_0 : decode prog_7_method_18_code 0 = .ok (.aload_n 0, 1) := by decide +kernel
theorem d_mo_ports_1 : decode prog_7_method_18_code 1 = .ok (.invokevirtual 134, 3) := by decide +kernel
theorem d_mo_ports_4 : decode prog_7_method_18_code 4 = .ok (.pop, 1) := by decide +kernel
theorem d_mo_ports_5 : decode prog_7_method_18_code 5 = .ok (.aload_n 0, 1) := by decide +kernel
theorem d_mo_ports_6 : decode prog_7_method_18_code 6 = .ok (.getfield 128, 3) := by decide +kernel
theorem d_mo_ports_9 : decode prog_7_method_18_code 9 = .ok (.ifCond .ne 7, 3) := by decide +kernel
theorem d_mo_ports_12 : decode prog_7_method_18_code 12 = .ok (.sipush (-10103), 3) := by decide +kernel
theorem d_mo_ports_15 : decode prog_7_method_18_code 15 = .ok (.ireturn, 1) := by decide +kernel
theorem d_mo_ports_16 : decode prog_7_method_18_code 16 = .ok (.aload_n 0, 1) := by decide +kernel
theorem d_mo_ports_17 : decode prog_7_method_18_code 17 = .ok (.aload_n 0, 1) := by decide +kernel
theorem d_mo_ports_18 : decode prog_7_method_18_code 18 = .ok (.getfield 115, 3) := by decide +kernel
theorem d_mo_ports_21 : decode prog_7_method_18_code 21 = .ok (.putfield 138, 3) := by decide +kernel
theorem d_mo_ports_24 : decode prog_7_method_18_code 24 = .ok (.iconst 0, 1) := by decide +kernel
theorem d_mo_ports_25 : decode prog_7_method_18_code 25 = .ok (.istore_n 1, 1) := by decide +kernel
theorem d_mo_ports_26 : decode prog_7_method_18_code 26 = .ok (.iload_n 1, 1) := by decide +kernel
theorem d_mo_ports_27 : decode prog_7_method_18_code 27 = .ok (.aload_n 0, 1) := by decide +kernel
theorem d_mo_ports_28 : decode prog_7_method_18_code 28 = .ok (.getfield 138, 3) := by decide +kernel
theorem d_mo_ports_31 : decode prog_7_method_18_code 31 = .ok (.if_icmp .ge 69, 3) := by decide +kernel
theorem d_mo_ports_34 : decode prog_7_method_18_code 34 = .ok (.aload_n 0, 1) := by decide +kernel
theorem d_mo_ports_35 : decode prog_7_method_18_code 35 = .ok (.getfield 7, 3) := by decide +kernel
theorem d_mo_ports_38 : decode prog_7_method_18_code 38 = .ok (.iload_n 1, 1) := by decide +kernel
theorem d_mo_ports_39 : decode prog_7_method_18_code 39 = .ok (.aload_n 0, 1) := by decide +kernel
theorem d_mo_ports_40 : decode prog_7_method_18_code 40 = .ok (.getfield 44, 3) := by decide +kernel
theorem d_mo_ports_43 : decode prog_7_method_18_code 43 = .ok (.iload_n 1, 1) := by decide +kernel
theorem d_mo_ports_44 : decode prog_7_method_18_code 44 = .ok (.iaload, 1) := by decide +kernel
theorem d_mo_ports_45 : decode prog_7_method_18_code 45 = .ok (.iastore, 1) := by decide +kernel
theorem d_mo_ports_46 : decode prog_7_method_18_code 46 = .ok (.aload_n 0, 1) := by decide +kernel
theorem d_mo_ports_47 : decode prog_7_method_18_code 47 = .ok (.getfield 13, 3) := by decide +kernel
theorem d_mo_ports_50 : decode prog_7_method_18_code 50 = .ok (.iload_n 1, 1) := by decide +kernel
theorem d_mo_ports_51 : decode prog_7_method_18_code 51 = .ok (.aload_n 0, 1) := by decide +kernel
theorem d_mo_ports_52 : decode prog_7_method_18_code 52 = .ok (.getfield 47, 3) := by decide +kernel
theorem d_mo_ports_55 : decode prog_7_method_18_code 55 = .ok (.iload_n 1, 1) := by decide +kernel
theorem d_mo_ports_56 : decode prog_7_method_18_code 56 = .ok (.iaload, 1) := by decide +kernel
theorem d_mo_ports_57 : decode prog_7_method_18_code 57 = .ok (.iastore, 1) := by decide +kernel
theorem d_mo_ports_58 : decode prog_7_method_18_code 58 = .ok (.aload_n 0, 1) := by decide +kernel
theorem d_mo_ports_59 : decode prog_7_method_18_code 59 = .ok (.getfield 16, 3) := by decide +kernel
theorem d_mo_ports_62 : decode prog_7_method_18_code 62 = .ok (.iload_n 1, 1) := by decide +kernel
theorem d_mo_ports_63 : decode prog_7_method_18_code 63 = .ok (.aload_n 0, 1) := by decide +kernel
theorem d_mo_ports_64 : decode prog_7_method_18_code 64 = .ok (.getfield 50, 3) := by decide +kernel
theorem d_mo_ports_67 : decode prog_7_method_18_code 67 = .ok (.iload_n 1, 1) := by decide +kernel
theorem d_mo_ports_68 : decode prog_7_method_18_code 68 = .ok (.iaload, 1) := by decide +kernel
theorem d_mo_ports_69 : decode prog_7_method_18_code 69 = .ok (.iastore, 1) := by decide +kernel
theorem d_mo_ports_70 : decode prog_7_method_18_code 70 = .ok (.aload_n 0, 1) := by decide +kernel
theorem d_mo_ports_71 : decode prog_7_method_18_code 71 = .ok (.getfield 19, 3) := by decide +kernel
theorem d_mo_ports_74 : decode prog_7_method_18_code 74 = .ok (.iload_n 1, 1) := by decide +kernel
theorem d_mo_ports_75 : decode prog_7_method_18_code 75 = .ok (.aload_n 0, 1) := by decide +kernel
theorem d_mo_ports_76 : decode prog_7_method_18_code 76 = .ok (.getfield 53, 3) := by decide +kernel
theorem d_mo_ports_79 : decode prog_7_method_18_code 79 = .ok (.iload_n 1, 1) := by decide +kernel
theorem d_mo_ports_80 : decode prog_7_method_18_code 80 = .ok (.iaload, 1) := by decide +kernel
theorem d_mo_ports_81 : decode prog_7_method_18_code 81 = .ok (.iastore, 1) := by decide +kernel
theorem d_mo_ports_82 : decode prog_7_method_18_code 82 = .ok (.aload_n 0, 1) := by decide +kernel
theorem d_mo_ports_83 : decode prog_7_method_18_code 83 = .ok (.getfield 22, 3) := by decide +kernel
theorem d_mo_ports_86 : decode prog_7_method_18_code 86 = .ok (.iload_n 1, 1) := by decide +kernel
theorem d_mo_ports_87 : decode prog_7_method_18_code 87 = .ok (.aload_n 0, 1) := by decide +kernel
theorem d_mo_ports_88 : decode prog_7_method_18_code 88 = .ok (.getfield 56, 3) := by decide +kernel
theorem d_mo_ports_91 : decode prog_7_method_18_code 91 = .ok (.iload_n 1, 1) := by decide +kernel
theorem d_mo_ports_92 : decode prog_7_method_18_code 92 = .ok (.iaload, 1) := by decide +kernel
theorem d_mo_ports_93 : decode prog_7_method_18_code 93 = .ok (.iastore, 1) := by decide +kernel
theorem d_mo_ports_94 : decode prog_7_method_18_code 94 = .ok (.iinc 1 1, 3) := by decide +kernel
theorem d_mo_ports_97 : decode prog_7_method_18_code 97 = .ok (.goto (-71), 3) := by decide +kernel
theorem d_mo_ports_100 : decode prog_7_method_18_code 100 = .ok (.iconst 0, 1) := by decide +kernel
theorem d_mo_ports_101 : decode prog_7_method_18_code 101 = .ok (.istore_n 1, 1) := by decide +kernel
theorem d_mo_ports_102 : decode prog_7_method_18_code 102 = .ok (.iload_n 1, 1) := by decide +kernel
theorem d_mo_ports_103 : decode prog_7_method_18_code 103 = .ok (.bipush 36, 2) := by decide +kernel
theorem d_mo_ports_105 : decode prog_7_method_18_code 105 = .ok (.if_icmp .ge 21, 3) := by decide +kernel
theorem d_mo_ports_108 : decode prog_7_method_18_code 108 = .ok (.aload_n 0, 1) := by decide +kernel
theorem d_mo_ports_109 : decode prog_7_method_18_code 109 = .ok (.getfield 25, 3) := by decide +kernel
theorem d_mo_ports_112 : decode prog_7_method_18_code 112 = .ok (.iload_n 1, 1) := by decide +kernel
theorem d_mo_ports_113 : decode prog_7_method_18_code 113 = .ok (.aload_n 0, 1) := by decide +kernel
theorem d_mo_ports_114 : decode prog_7_method_18_code 114 = .ok (.getfield 59, 3) := by decide +kernel
theorem d_mo_ports_117 : decode prog_7_method_18_code 117 = .ok (.iload_n 1, 1) := by decide +kernel
theorem d_mo_ports_118 : decode prog_7_method_18_code 118 = .ok (.iaload, 1) := by decide +kernel
theorem d_mo_ports_119 : decode prog_7_method_18_code 119 = .ok (.iastore, 1) := by decide +kernel
theorem d_mo_ports_120 : decode prog_7_method_18_code 120 = .ok (.iinc 1 1, 3) := by decide +kernel
theorem d_mo_ports_123 : decode prog_7_method_18_code 123 = .ok (.goto (-21), 3) := by decide +kernel
theorem d_mo_ports_126 : decode prog_7_method_18_code 126 = .ok (.aload_n 0, 1) := by decide +kernel
theorem d_mo_ports_127 : decode prog_7_method_18_code 127 = .ok (.dup, 1) := by decide +kernel
theorem d_mo_ports_128 : decode prog_7_method_18_code 128 = .ok (.getfield 141, 3) := by decide +kernel
theorem d_mo_ports_131 : decode prog_7_method_18_code 131 = .ok (.iconst 1, 1) := by decide +kernel
theorem d_mo_ports_132 : decode prog_7_method_18_code 132 = .ok (.iadd, 1) := by decide +kernel
theorem d_mo_ports_133 : decode prog_7_method_18_code 133 = .ok (.putfield 141, 3) := by decide +kernel
theorem d_mo_ports_136 : decode prog_7_method_18_code 136 = .ok (.aload_n 0, 1) := by decide +kernel
theorem d_mo_ports_137 : decode prog_7_method_18_code 137 = .ok (.iconst 0, 1) := by decide +kernel
theorem d_mo_ports_138 : decode prog_7_method_18_code 138 = .ok (.putfield 144, 3) := by decide +kernel
theorem d_mo_ports_141 : decode prog_7_method_18_code 141 = .ok (.aload_n 0, 1) := by decide +kernel
theorem d_mo_ports_142 : decode prog_7_method_18_code 142 = .ok (.iconst 0, 1) := by decide +kernel
theorem d_mo_ports_143 : decode prog_7_method_18_code 143 = .ok (.putfield 97, 3) := by decide +kernel
theorem d_mo_ports_146 : decode prog_7_method_18_code 146 = .ok (.aload_n 0, 1) := by decide +kernel
theorem d_mo_ports_147 : decode prog_7_method_18_code 147 = .ok (.getfield 138, 3) := by decide +kernel
theorem d_mo_ports_150 : decode prog_7_method_18_code 150 = .ok (.ireturn, 1) := by decide +kernel
theorem d_mo_isPort_0 : decode prog_7_method_19_code 0 = .ok (.iload_n 1, 1) := by decide +kernel
theorem d_mo_isPort_1 : decode prog_7_method_19_code 1 = .ok (.iconst 0, 1) := by decide +kernel
theorem d_mo_isPort_2 : decode prog_7_method_19_code 2 = .ok (.aload_n 0, 1) := by decide +kernel
theorem d_mo_isPort_3 : decode prog_7_method_19_code 3 = .ok (.getfield 138, 3) := by decide +kernel
theorem d_mo_isPort_6 : decode prog_7_method_19_code 6 = .ok (.iconst 1, 1) := by decide +kernel
theorem d_mo_isPort_7 : decode prog_7_method_19_code 7 = .ok (.isub, 1) := by decide +kernel
theorem d_mo_isPort_8 : decode prog_7_method_19_code 8 = .ok (.invokestatic 93, 3) := by decide +kernel
theorem d_mo_isPort_11 : decode prog_7_method_19_code 11 = .ok (.ireturn, 1) := by decide +kernel
theorem d_mo_isWave_0 : decode prog_7_method_20_code 0 = .ok (.aload_n 0, 1) := by decide +kernel
theorem d_mo_isWave_1 : decode prog_7_method_20_code 1 = .ok (.iload_n 1, 1) := by decide +kernel
theorem d_mo_isWave_2 : decode prog_7_method_20_code 2 = .ok (.invokevirtual 147, 3) := by decide +kernel
theorem d_mo_isWave_5 : decode prog_7_method_20_code 5 = .ok (.ifCond .eq 23, 3) := by decide +kernel
theorem d_mo_isWave_8 : decode prog_7_method_20_code 8 = .ok (.iload_n 2, 1) := by decide +kernel
theorem d_mo_isWave_9 : decode prog_7_method_20_code 9 = .ok (.iconst 0, 1) := by decide +kernel
theorem d_mo_isWave_10 : decode prog_7_method_20_code 10 = .ok (.aload_n 0, 1) := by decide +kernel
theorem d_mo_isWave_11 : decode prog_7_method_20_code 11 = .ok (.getfield 22, 3) := by decide +kernel
theorem d_mo_isWave_14 : decode prog_7_method_20_code 14 = .ok (.iload_n 1, 1) := by decide +kernel
theorem d_mo_isWave_15 : decode prog_7_method_20_code 15 = .ok (.iaload, 1) := by decide +kernel
theorem d_mo_isWave_16 : decode prog_7_method_20_code 16 = .ok (.iconst 1, 1) := by decide +kernel
theorem d_mo_isWave_17 : decode prog_7_method_20_code 17 = .ok (.isub, 1) := by decide +kernel
theorem d_mo_isWave_18 : decode prog_7_method_20_code 18 = .ok (.invokestatic 93, 3) := by decide +kernel
theorem d_mo_isWave_21 : decode prog_7_method_20_code 21 = .ok (.ifCond .eq 7, 3) := by decide +kernel
theorem d_mo_isWave_24 : decode prog_7_method_20_code 24 = .ok (.iconst 1, 1) := by decide +kernel
theorem d_mo_isWave_25 : decode prog_7_method_20_code 25 = .ok (.goto 4, 3) := by decide +kernel
theorem d_mo_isWave_28 : decode prog_7_method_20_code 28 = .ok (.iconst 0, 1) := by decide +kernel
theorem d_mo_isWave_29 : decode prog_7_method_20_code 29 = .ok (.ireturn, 1) := by decide +kernel
theorem d_mo_isNumber_0 : decode prog_7_method_21_code 0 = .ok (.iload_n 0, 1) := by decide +kernel
theorem d_mo_isNumber_1 : decode prog_7_method_21_code 1 = .ok (.iconst 0, 1) := by decide +kernel
theorem d_mo_isNumber_2 : decode prog_7_method_21_code 2 = .ok (.bipush 99, 2) := by decide +kernel
theorem d_mo_isNumber_4 : decode prog_7_method_21_code 4 = .ok (.invokestatic 93, 3) := by decide +kernel
theorem d_mo_isNumber_7 : decode prog_7_method_21_code 7 = .ok (.ireturn, 1) := by decide +kernel
theorem d_mo_portNow_0 : decode prog_7_method_22_code 0 = .ok (.iload_n 2, 1) := by decide +kernel
theorem d_mo_portNow_1 : decode prog_7_method_22_code 1 = .ok (.tableswitch 80 0 5 #[39, 46, 53, 60, 67, 74], 39) := by decide +kernel
theorem d_mo_portNow_40 : decode prog_7_method_22_code 40 = .ok (.aload_n 0, 1) := by decide +kernel
theorem d_mo_portNow_41 : decode prog_7_method_22_code 41 = .ok (.getfield 7, 3) := by decide +kernel
theorem d_mo_portNow_44 : decode prog_7_method_22_code 44 = .ok (.iload_n 1, 1) := by decide +kernel
theorem d_mo_portNow_45 : decode prog_7_method_22_code 45 = .ok (.iaload, 1) := by decide +kernel
theorem d_mo_portNow_46 : decode prog_7_method_22_code 46 = .ok (.ireturn, 1) := by decide +kernel
theorem d_mo_portNow_47 : decode prog_7_method_22_code 47 = .ok (.aload_n 0, 1) := by decide +kernel
theorem d_mo_portNow_48 : decode prog_7_method_22_code 48 = .ok (.getfield 13, 3) := by decide +kernel
theorem d_mo_portNow_51 : decode prog_7_method_22_code 51 = .ok (.iload_n 1, 1) := by decide +kernel
theorem d_mo_portNow_52 : decode prog_7_method_22_code 52 = .ok (.iaload, 1) := by decide +kernel
theorem d_mo_portNow_53 : decode prog_7_method_22_code 53 = .ok (.ireturn, 1) := by decide +kernel
theorem d_mo_portNow_54 : decode prog_7_method_22_code 54 = .ok (.aload_n 0, 1) := by decide +kernel
theorem d_mo_portNow_55 : decode prog_7_method_22_code 55 = .ok (.getfield 16, 3) := by decide +kernel
theorem d_mo_portNow_58 : decode prog_7_method_22_code 58 = .ok (.iload_n 1, 1) := by decide +kernel
theorem d_mo_portNow_59 : decode prog_7_method_22_code 59 = .ok (.iaload, 1) := by decide +kernel
theorem d_mo_portNow_60 : decode prog_7_method_22_code 60 = .ok (.ireturn, 1) := by decide +kernel
theorem d_mo_portNow_61 : decode prog_7_method_22_code 61 = .ok (.aload_n 0, 1) := by decide +kernel
theorem d_mo_portNow_62 : decode prog_7_method_22_code 62 = .ok (.getfield 19, 3) := by decide +kernel
theorem d_mo_portNow_65 : decode prog_7_method_22_code 65 = .ok (.iload_n 1, 1) := by decide +kernel
theorem d_mo_portNow_66 : decode prog_7_method_22_code 66 = .ok (.iaload, 1) := by decide +kernel
theorem d_mo_portNow_67 : decode prog_7_method_22_code 67 = .ok (.ireturn, 1) := by decide +kernel
theorem d_mo_portNow_68 : decode prog_7_method_22_code 68 = .ok (.aload_n 0, 1) := by decide +kernel
theorem d_mo_portNow_69 : decode prog_7_method_22_code 69 = .ok (.getfield 22, 3) := by decide +kernel
theorem d_mo_portNow_72 : decode prog_7_method_22_code 72 = .ok (.iload_n 1, 1) := by decide +kernel
theorem d_mo_portNow_73 : decode prog_7_method_22_code 73 = .ok (.iaload, 1) := by decide +kernel
theorem d_mo_portNow_74 : decode prog_7_method_22_code 74 = .ok (.ireturn, 1) := by decide +kernel
theorem d_mo_portNow_75 : decode prog_7_method_22_code 75 = .ok (.aload_n 0, 1) := by decide +kernel
theorem d_mo_portNow_76 : decode prog_7_method_22_code 76 = .ok (.iload_n 1, 1) := by decide +kernel
theorem d_mo_portNow_77 : decode prog_7_method_22_code 77 = .ok (.invokevirtual 150, 3) := by decide +kernel
theorem d_mo_portNow_80 : decode prog_7_method_22_code 80 = .ok (.ireturn, 1) := by decide +kernel
theorem d_mo_portNow_81 : decode prog_7_method_22_code 81 = .ok (.aload_n 0, 1) := by decide +kernel
theorem d_mo_portNow_82 : decode prog_7_method_22_code 82 = .ok (.iload_n 1, 1) := by decide +kernel
theorem d_mo_portNow_83 : decode prog_7_method_22_code 83 = .ok (.invokevirtual 153, 3) := by decide +kernel
theorem d_mo_portNow_86 : decode prog_7_method_22_code 86 = .ok (.ireturn, 1) := by decide +kernel
theorem d_mo_port_0 : decode prog_7_method_23_code 0 = .ok (.aload_n 0, 1) := by decide +kernel
theorem d_mo_port_1 : decode prog_7_method_23_code 1 = .ok (.iload_n 1, 1) := by decide +kernel
theorem d_mo_port_2 : decode prog_7_method_23_code 2 = .ok (.invokevirtual 147, 3) := by decide +kernel
theorem d_mo_port_5 : decode prog_7_method_23_code 5 = .ok (.ifCond .ne 9, 3) := by decide +kernel
theorem d_mo_port_8 : decode prog_7_method_23_code 8 = .ok (.sipush (-10101), 3) := by decide +kernel
theorem d_mo_port_11 : decode prog_7_method_23_code 11 = .ok (.goto 25, 3) := by decide +kernel
theorem d_mo_port_14 : decode prog_7_method_23_code 14 = .ok (.iload_n 2, 1) := by decide +kernel
theorem d_mo_port_15 : decode prog_7_method_23_code 15 = .ok (.iconst 0, 1) := by decide +kernel
theorem d_mo_port_16 : decode prog_7_method_23_code 16 = .ok (.bipush 6, 2) := by decide +kernel
theorem d_mo_port_18 : decode prog_7_method_23_code 18 = .ok (.invokestatic 93, 3) := by decide +kernel
theorem d_mo_port_21 : decode prog_7_method_23_code 21 = .ok (.ifCond .eq 12, 3) := by decide +kernel
theorem d_mo_port_24 : decode prog_7_method_23_code 24 = .ok (.aload_n 0, 1) := by decide +kernel
theorem d_mo_port_25 : decode prog_7_method_23_code 25 = .ok (.iload_n 1, 1) := by decide +kernel
theorem d_mo_port_26 : decode prog_7_method_23_code 26 = .ok (.iload_n 2, 1) := by decide +kernel
theorem d_mo_port_27 : decode prog_7_method_23_code 27 = .ok (.invokevirtual 156, 3) := by decide +kernel
theorem d_mo_port_30 : decode prog_7_method_23_code 30 = .ok (.goto 6, 3) := by decide +kernel
theorem d_mo_port_33 : decode prog_7_method_23_code 33 = .ok (.sipush (-10102), 3) := by decide +kernel
theorem d_mo_port_36 : decode prog_7_method_23_code 36 = .ok (.ireturn, 1) := by decide +kernel
theorem d_mo_waveNow_0 : decode prog_7_method_24_code 0 = .ok (.aload_n 0, 1) := by decide +kernel
theorem d_mo_waveNow_1 : decode prog_7_method_24_code 1 = .ok (.getfield 25, 3) := by decide +kernel
theorem d_mo_waveNow_4 : decode prog_7_method_24_code 4 = .ok (.bipush 9, 2) := by decide +kernel
theorem d_mo_waveNow_6 : decode prog_7_method_24_code 6 = .ok (.iload_n 1, 1) := by decide +kernel
theorem d_mo_waveNow_7 : decode prog_7_method_24_code 7 = .ok (.imul, 1) := by decide +kernel
theorem d_mo_waveNow_8 : decode prog_7_method_24_code 8 = .ok (.iconst 3, 1) := by decide +kernel
theorem d_mo_waveNow_9 : decode prog_7_method_24_code 9 = .ok (.iload_n 2, 1) := by decide +kernel
theorem d_mo_waveNow_10 : decode prog_7_method_24_code 10 = .ok (.imul, 1) := by decide +kernel
theorem d_mo_waveNow_11 : decode prog_7_method_24_code 11 = .ok (.iadd, 1) := by decide +kernel
theorem d_mo_waveNow_12 : decode prog_7_method_24_code 12 = .ok (.iload_n 3, 1) := by decide +kernel
theorem d_mo_waveNow_13 : decode prog_7_method_24_code 13 = .ok (.iadd, 1) := by decide +kernel
theorem d_mo_waveNow_14 : decode prog_7_method_24_code 14 = .ok (.iaload, 1) := by decide +kernel
theorem d_mo_waveNow_15 : decode prog_7_method_24_code 15 = .ok (.ireturn, 1) := by decide +kernel
theorem d_mo_wave_0 : decode prog_7_method_25_code 0 = .ok (.aload_n 0, 1) := by decide +kernel
theorem d_mo_wave_1 : decode prog_7_method_25_code 1 = .ok (.iload_n 1, 1) := by decide +kernel
theorem d_mo_wave_2 : decode prog_7_method_25_code 2 = .ok (.iload_n 2, 1) := by decide +kernel
theorem d_mo_wave_3 : decode prog_7_method_25_code 3 = .ok (.invokevirtual 160, 3) := by decide +kernel
theorem d_mo_wave_6 : decode prog_7_method_25_code 6 = .ok (.ifCond .ne 9, 3) := by decide +kernel
theorem d_mo_wave_9 : decode prog_7_method_25_code 9 = .ok (.sipush (-10101), 3) := by decide +kernel
theorem d_mo_wave_12 : decode prog_7_method_25_code 12 = .ok (.goto 25, 3) := by decide +kernel
theorem d_mo_wave_15 : decode prog_7_method_25_code 15 = .ok (.iload_n 3, 1) := by decide +kernel
theorem d_mo_wave_16 : decode prog_7_method_25_code 16 = .ok (.iconst 0, 1) := by decide +kernel
theorem d_mo_wave_17 : decode prog_7_method_25_code 17 = .ok (.iconst 2, 1) := by decide +kernel
theorem d_mo_wave_18 : decode prog_7_method_25_code 18 = .ok (.invokestatic 93, 3) := by decide +kernel
theorem d_mo_wave_21 : decode prog_7_method_25_code 21 = .ok (.ifCond .eq 13, 3) := by decide +kernel
theorem d_mo_wave_24 : decode prog_7_method_25_code 24 = .ok (.aload_n 0, 1) := by decide +kernel
theorem d_mo_wave_25 : decode prog_7_method_25_code 25 = .ok (.iload_n 1, 1) := by decide +kernel
theorem d_mo_wave_26 : decode prog_7_method_25_code 26 = .ok (.iload_n 2, 1) := by decide +kernel
theorem d_mo_wave_27 : decode prog_7_method_25_code 27 = .ok (.iload_n 3, 1) := by decide +kernel
theorem d_mo_wave_28 : decode prog_7_method_25_code 28 = .ok (.invokevirtual 164, 3) := by decide +kernel
theorem d_mo_wave_31 : decode prog_7_method_25_code 31 = .ok (.goto 6, 3) := by decide +kernel
theorem d_mo_wave_34 : decode prog_7_method_25_code 34 = .ok (.sipush (-10102), 3) := by decide +kernel
theorem d_mo_wave_37 : decode prog_7_method_25_code 37 = .ok (.ireturn, 1) := by decide +kernel
theorem d_mo_as_0 : decode prog_7_method_26_code 0 = .ok (.aload_n 0, 1) := by decide +kernel
theorem d_mo_as_1 : decode prog_7_method_26_code 1 = .ok (.iload_n 1, 1) := by decide +kernel
theorem d_mo_as_2 : decode prog_7_method_26_code 2 = .ok (.invokevirtual 147, 3) := by decide +kernel
theorem d_mo_as_5 : decode prog_7_method_26_code 5 = .ok (.ifCond .ne 7, 3) := by decide +kernel
theorem d_mo_as_8 : decode prog_7_method_26_code 8 = .ok (.sipush (-10101), 3) := by decide +kernel
theorem d_mo_as_11 : decode prog_7_method_26_code 11 = .ok (.ireturn, 1) := by decide +kernel
theorem d_mo_as_12 : decode prog_7_method_26_code 12 = .ok (.iload_n 2, 1) := by decide +kernel
theorem d_mo_as_13 : decode prog_7_method_26_code 13 = .ok (.iconst 0, 1) := by decide +kernel
theorem d_mo_as_14 : decode prog_7_method_26_code 14 = .ok (.iconst 4, 1) := by decide +kernel
theorem d_mo_as_15 : decode prog_7_method_26_code 15 = .ok (.invokestatic 93, 3) := by decide +kernel
theorem d_mo_as_18 : decode prog_7_method_26_code 18 = .ok (.ifCond .ne 7, 3) := by decide +kernel
theorem d_mo_as_21 : decode prog_7_method_26_code 21 = .ok (.sipush (-10102), 3) := by decide +kernel
theorem d_mo_as_24 : decode prog_7_method_26_code 24 = .ok (.ireturn, 1) := by decide +kernel
theorem d_mo_as_25 : decode prog_7_method_26_code 25 = .ok (.aload_n 0, 1) := by decide +kernel
theorem d_mo_as_26 : decode prog_7_method_26_code 26 = .ok (.getfield 7, 3) := by decide +kernel
theorem d_mo_as_29 : decode prog_7_method_26_code 29 = .ok (.iload_n 1, 1) := by decide +kernel
theorem d_mo_as_30 : decode prog_7_method_26_code 30 = .ok (.iaload, 1) := by decide +kernel
theorem d_mo_as_31 : decode prog_7_method_26_code 31 = .ok (.istore_n 3, 1) := by decide +kernel
theorem d_mo_as_32 : decode prog_7_method_26_code 32 = .ok (.iload_n 2, 1) := by decide +kernel
theorem d_mo_as_33 : decode prog_7_method_26_code 33 = .ok (.ifCond .eq 18, 3) := by decide +kernel
theorem d_mo_as_36 : decode prog_7_method_26_code 36 = .ok (.iload_n 3, 1) := by decide +kernel
theorem d_mo_as_37 : decode prog_7_method_26_code 37 = .ok (.iload_n 2, 1) := by decide +kernel
theorem d_mo_as_38 : decode prog_7_method_26_code 38 = .ok (.if_icmp .eq 13, 3) := by decide +kernel
theorem d_mo_as_41 : decode prog_7_method_26_code 41 = .ok (.iload_n 2, 1) := by decide +kernel
theorem d_mo_as_42 : decode prog_7_method_26_code 42 = .ok (.iconst 1, 1) := by decide +kernel
theorem d_mo_as_43 : decode prog_7_method_26_code 43 = .ok (.if_icmp .ne 12, 3) := by decide +kernel
theorem d_mo_as_46 : decode prog_7_method_26_code 46 = .ok (.iload_n 3, 1) := by decide +kernel
theorem d_mo_as_47 : decode prog_7_method_26_code 47 = .ok (.iconst 2, 1) := by decide +kernel
theorem d_mo_as_48 : decode prog_7_method_26_code 48 = .ok (.if_icmp .ne 7, 3) := by decide +kernel
theorem d_mo_as_51 : decode prog_7_method_26_code 51 = .ok (.iload_n 1, 1) := by decide +kernel
theorem d_mo_as_52 : decode prog_7_method_26_code 52 = .ok (.goto 6, 3) := by decide +kernel
theorem d_mo_as_55 : decode prog_7_method_26_code 55 = .ok (.sipush (-10001), 3) := by decide +kernel
theorem d_mo_as_58 : decode prog_7_method_26_code 58 = .ok (.ireturn, 1) := by decide +kernel
theorem d_mo_round_0 : decode prog_7_method_27_code 0 = .ok (.iload_n 1, 1) := by decide +kernel
theorem d_mo_round_1 : decode prog_7_method_27_code 1 = .ok (.iconst 0, 1) := by decide +kernel
theorem d_mo_round_2 : decode prog_7_method_27_code 2 = .ok (.bipush 64, 2) := by decide +kernel
theorem d_mo_round_4 : decode prog_7_method_27_code 4 = .ok (.invokestatic 93, 3) := by decide +kernel
theorem d_mo_round_7 : decode prog_7_method_27_code 7 = .ok (.ifCond .eq 12, 3) := by decide +kernel
theorem d_mo_round_10 : decode prog_7_method_27_code 10 = .ok (.aload_n 0, 1) := by decide +kernel
theorem d_mo_round_11 : decode prog_7_method_27_code 11 = .ok (.getfield 28, 3) := by decide +kernel
theorem d_mo_round_14 : decode prog_7_method_27_code 14 = .ok (.iload_n 1, 1) := by decide +kernel
theorem d_mo_round_15 : decode prog_7_method_27_code 15 = .ok (.iaload, 1) := by decide +kernel
theorem d_mo_round_16 : decode prog_7_method_27_code 16 = .ok (.goto 6, 3) := by decide +kernel
theorem d_mo_round_19 : decode prog_7_method_27_code 19 = .ok (.sipush (-10102), 3) := by decide +kernel
theorem d_mo_round_22 : decode prog_7_method_27_code 22 = .ok (.ireturn, 1) := by decide +kernel
theorem d_mo_turnAt_0 : decode prog_7_method_28_code 0 = .ok (.iload_n 1, 1) := by decide +kernel
theorem d_mo_turnAt_1 : decode prog_7_method_28_code 1 = .ok (.bipush 16, 2) := by decide +kernel
theorem d_mo_turnAt_3 : decode prog_7_method_28_code 3 = .ok (.idiv, 1) := by decide +kernel
theorem d_mo_turnAt_4 : decode prog_7_method_28_code 4 = .ok (.istore_n 2, 1) := by decide +kernel
theorem d_mo_turnAt_5 : decode prog_7_method_28_code 5 = .ok (.iload_n 1, 1) := by decide +kernel
theorem d_mo_turnAt_6 : decode prog_7_method_28_code 6 = .ok (.bipush 16, 2) := by decide +kernel
theorem d_mo_turnAt_8 : decode prog_7_method_28_code 8 = .ok (.irem, 1) := by decide +kernel
theorem d_mo_turnAt_9 : decode prog_7_method_28_code 9 = .ok (.istore_n 3, 1) := by decide +kernel
theorem d_mo_turnAt_10 : decode prog_7_method_28_code 10 = .ok (.aload_n 0, 1) := by decide +kernel
theorem d_mo_turnAt_11 : decode prog_7_method_28_code 11 = .ok (.getfield 28, 3) := by decide +kernel
theorem d_mo_turnAt_14 : decode prog_7_method_28_code 14 = .ok (.iload_n 2, 1) := by decide +kernel
theorem d_mo_turnAt_15 : decode prog_7_method_28_code 15 = .ok (.iaload, 1) := by decide +kernel
theorem d_mo_turnAt_16 : decode prog_7_method_28_code 16 = .ok (.bipush 16, 2) := by decide +kernel
theorem d_mo_turnAt_18 : decode prog_7_method_28_code 18 = .ok (.iload_n 3, 1) := by decide +kernel
theorem d_mo_turnAt_19 : decode prog_7_method_28_code 19 = .ok (.isub, 1) := by decide +kernel
theorem d_mo_turnAt_20 : decode prog_7_method_28_code 20 = .ok (.imul, 1) := by decide +kernel
theorem d_mo_turnAt_21 : decode prog_7_method_28_code 21 = .ok (.aload_n 0, 1) := by decide +kernel
theorem d_mo_turnAt_22 : decode prog_7_method_28_code 22 = .ok (.getfield 28, 3) := by decide +kernel
theorem d_mo_turnAt_25 : decode prog_7_method_28_code 25 = .ok (.iload_n 2, 1) := by decide +kernel
theorem d_mo_turnAt_26 : decode prog_7_method_28_code 26 = .ok (.iconst 1, 1) := by decide +kernel
theorem d_mo_turnAt_27 : decode prog_7_method_28_code 27 = .ok (.iadd, 1) := by decide +kernel
theorem d_mo_turnAt_28 : decode prog_7_method_28_code 28 = .ok (.iaload, 1) := by decide +kernel
theorem d_mo_turnAt_29 : decode prog_7_method_28_code 29 = .ok (.iload_n 3, 1) := by decide +kernel
theorem d_mo_turnAt_30 : decode prog_7_method_28_code 30 = .ok (.imul, 1) := by decide +kernel
theorem d_mo_turnAt_31 : decode prog_7_method_28_code 31 = .ok (.iadd, 1) := by decide +kernel
theorem d_mo_turnAt_32 : decode prog_7_method_28_code 32 = .ok (.bipush 16, 2) := by decide +kernel
theorem d_mo_turnAt_34 : decode prog_7_method_28_code 34 = .ok (.invokestatic 167, 3) := by decide +kernel
theorem d_mo_turnAt_37 : decode prog_7_method_28_code 37 = .ok (.ireturn, 1) := by decide +kernel
theorem d_mo_sumAt_0 : decode prog_7_method_29_code 0 = .ok (.bipush 10, 2) := by decide +kernel
theorem d_mo_sumAt_2 : decode prog_7_method_29_code 2 = .ok (.aload_n 0, 1) := by decide +kernel
theorem d_mo_sumAt_3 : decode prog_7_method_29_code 3 = .ok (.getfield 13, 3) := by decide +kernel
theorem d_mo_sumAt_6 : decode prog_7_method_29_code 6 = .ok (.iload_n 1, 1) := by decide +kernel
theorem d_mo_sumAt_7 : decode prog_7_method_29_code 7 = .ok (.iaload, 1) := by decide +kernel
theorem d_mo_sumAt_8 : decode prog_7_method_29_code 8 = .ok (.imul, 1) := by decide +kernel
theorem d_mo_sumAt_9 : decode prog_7_method_29_code 9 = .ok (.istore_n 3, 1) := by decide +kernel
theorem d_mo_sumAt_10 : decode prog_7_method_29_code 10 = .ok (.iconst 0, 1) := by decide +kernel
theorem d_mo_sumAt_11 : decode prog_7_method_29_code 11 = .ok (.istore 4, 2) := by decide +kernel
theorem d_mo_sumAt_13 : decode prog_7_method_29_code 13 = .ok (.iload 4, 2) := by decide +kernel
theorem d_mo_sumAt_15 : decode prog_7_method_29_code 15 = .ok (.aload_n 0, 1) := by decide +kernel
theorem d_mo_sumAt_16 : decode prog_7_method_29_code 16 = .ok (.getfield 22, 3) := by decide +kernel
theorem d_mo_sumAt_19 : decode prog_7_method_29_code 19 = .ok (.iload_n 1, 1) := by decide +kernel
theorem d_mo_sumAt_20 : decode prog_7_method_29_code 20 = .ok (.iaload, 1) := by decide +kernel
theorem d_mo_sumAt_21 : decode prog_7_method_29_code 21 = .ok (.if_icmp .ge 72, 3) := by decide +kernel
theorem d_mo_sumAt_24 : decode prog_7_method_29_code 24 = .ok (.aload_n 0, 1) := by decide +kernel
theorem d_mo_sumAt_25 : decode prog_7_method_29_code 25 = .ok (.iload_n 1, 1) := by decide +kernel
theorem d_mo_sumAt_26 : decode prog_7_method_29_code 26 = .ok (.iload 4, 2) := by decide +kernel
theorem d_mo_sumAt_28 : decode prog_7_method_29_code 28 = .ok (.iconst 0, 1) := by decide +kernel
theorem d_mo_sumAt_29 : decode prog_7_method_29_code 29 = .ok (.invokevirtual 164, 3) := by decide +kernel
theorem d_mo_sumAt_32 : decode prog_7_method_29_code 32 = .ok (.iload_n 2, 1) := by decide +kernel
theorem d_mo_sumAt_33 : decode prog_7_method_29_code 33 = .ok (.imul, 1) := by decide +kernel
theorem d_mo_sumAt_34 : decode prog_7_method_29_code 34 = .ok (.bipush 16, 2) := by decide +kernel
theorem d_mo_sumAt_36 : decode prog_7_method_29_code 36 = .ok (.aload_n 0, 1) := by decide +kernel
theorem d_mo_sumAt_37 : decode prog_7_method_29_code 37 = .ok (.iload_n 1, 1) := by decide +kernel
theorem d_mo_sumAt_38 : decode prog_7_method_29_code 38 = .ok (.iload 4, 2) := by decide +kernel
theorem d_mo_sumAt_40 : decode prog_7_method_29_code 40 = .ok (.iconst 2, 1) := by decide +kernel
theorem d_mo_sumAt_41 : decode prog_7_method_29_code 41 = .ok (.invokevirtual 164, 3) := by decide +kernel
theorem d_mo_sumAt_44 : decode prog_7_method_29_code 44 = .ok (.imul, 1) := by decide +kernel
theorem d_mo_sumAt_45 : decode prog_7_method_29_code 45 = .ok (.iadd, 1) := by decide +kernel
theorem d_mo_sumAt_46 : decode prog_7_method_29_code 46 = .ok (.istore 5, 2) := by decide +kernel
theorem d_mo_sumAt_48 : decode prog_7_method_29_code 48 = .ok (.iload 5, 2) := by decide +kernel
theorem d_mo_sumAt_50 : decode prog_7_method_29_code 50 = .ok (.sipush 1024, 3) := by decide +kernel
theorem d_mo_sumAt_53 : decode prog_7_method_29_code 53 = .ok (.irem, 1) := by decide +kernel
theorem d_mo_sumAt_54 : decode prog_7_method_29_code 54 = .ok (.sipush 1024, 3) := by decide +kernel
theorem d_mo_sumAt_57 : decode prog_7_method_29_code 57 = .ok (.iadd, 1) := by decide +kernel
theorem d_mo_sumAt_58 : decode prog_7_method_29_code 58 = .ok (.sipush 1024, 3) := by decide +kernel
theorem d_mo_sumAt_61 : decode prog_7_method_29_code 61 = .ok (.irem, 1) := by decide +kernel
theorem d_mo_sumAt_62 : decode prog_7_method_29_code 62 = .ok (.istore 6, 2) := by decide +kernel
theorem d_mo_sumAt_64 : decode prog_7_method_29_code 64 = .ok (.iload_n 3, 1) := by decide +kernel
theorem d_mo_sumAt_65 : decode prog_7_method_29_code 65 = .ok (.aload_n 0, 1) := by decide +kernel
theorem d_mo_sumAt_66 : decode prog_7_method_29_code 66 = .ok (.iload_n 1, 1) := by decide +kernel
theorem d_mo_sumAt_67 : decode prog_7_method_29_code 67 = .ok (.iload 4, 2) := by decide +kernel
theorem d_mo_sumAt_69 : decode prog_7_method_29_code 69 = .ok (.iconst 1, 1) := by decide +kernel
theorem d_mo_sumAt_70 : decode prog_7_method_29_code 70 = .ok (.invokevirtual 164, 3) := by decide +kernel
theorem d_mo_sumAt_73 : decode prog_7_method_29_code 73 = .ok (.aload_n 0, 1) := by decide +kernel
theorem d_mo_sumAt_74 : decode prog_7_method_29_code 74 = .ok (.iload 6, 2) := by decide +kernel
theorem d_mo_sumAt_76 : decode prog_7_method_29_code 76 = .ok (.invokevirtual 170, 3) := by decide +kernel
theorem d_mo_sumAt_79 : decode prog_7_method_29_code 79 = .ok (.imul, 1) := by decide +kernel
theorem d_mo_sumAt_80 : decode prog_7_method_29_code 80 = .ok (.bipush 100, 2) := by decide +kernel
theorem d_mo_sumAt_82 : decode prog_7_method_29_code 82 = .ok (.invokestatic 167, 3) := by decide +kernel
theorem d_mo_sumAt_85 : decode prog_7_method_29_code 85 = .ok (.iadd, 1) := by decide +kernel
theorem d_mo_sumAt_86 : decode prog_7_method_29_code 86 = .ok (.istore_n 3, 1) := by decide +kernel
theorem d_mo_sumAt_87 : decode prog_7_method_29_code 87 = .ok (.iinc 4 1, 3) := by decide +kernel
theorem d_mo_sumAt_90 : decode prog_7_method_29_code 90 = .ok (.goto (-77), 3) := by decide +kernel
theorem d_mo_sumAt_93 : decode prog_7_method_29_code 93 = .ok (.iload_n 3, 1) := by decide +kernel
theorem d_mo_sumAt_94 : decode prog_7_method_29_code 94 = .ok (.ireturn, 1) := by decide +kernel
theorem d_mo_silled_0 : decode prog_7_method_30_code 0 = .ok (.aload_n 0, 1) := by decide +kernel
theorem d_mo_silled_1 : decode prog_7_method_30_code 1 = .ok (.iload_n 1, 1) := by decide +kernel
theorem d_mo_silled_2 : decode prog_7_method_30_code 2 = .ok (.iload_n 2, 1) := by decide +kernel
theorem d_mo_silled_3 : decode prog_7_method_30_code 3 = .ok (.invokevirtual 173, 3) := by decide +kernel
theorem d_mo_silled_6 : decode prog_7_method_30_code 6 = .ok (.istore_n 3, 1) := by decide +kernel
theorem d_mo_silled_7 : decode prog_7_method_30_code 7 = .ok (.iload_n 3, 1) := by decide +kernel
theorem d_mo_silled_8 : decode prog_7_method_30_code 8 = .ok (.bipush 10, 2) := by decide +kernel
theorem d_mo_silled_10 : decode prog_7_method_30_code 10 = .ok (.aload_n 0, 1) := by decide +kernel
theorem d_mo_silled_11 : decode prog_7_method_30_code 11 = .ok (.getfield 16, 3) := by decide +kernel
theorem d_mo_silled_14 : decode prog_7_method_30_code 14 = .ok (.iload_n 1, 1) := by decide +kernel
theorem d_mo_silled_15 : decode prog_7_method_30_code 15 = .ok (.iaload, 1) := by decide +kernel
theorem d_mo_silled_16 : decode prog_7_method_30_code 16 = .ok (.imul, 1) := by decide +kernel
theorem d_mo_silled_17 : decode prog_7_method_30_code 17 = .ok (.if_icmp .le 7, 3) := by decide +kernel
theorem d_mo_silled_20 : decode prog_7_method_30_code 20 = .ok (.iload_n 3, 1) := by decide +kernel
theorem d_mo_silled_21 : decode prog_7_method_30_code 21 = .ok (.goto 12, 3) := by decide +kernel
theorem d_mo_silled_24 : decode prog_7_method_30_code 24 = .ok (.bipush 10, 2) := by decide +kernel
theorem d_mo_silled_26 : decode prog_7_method_30_code 26 = .ok (.aload_n 0, 1) := by decide +kernel
theorem d_mo_silled_27 : decode prog_7_method_30_code 27 = .ok (.getfield 16, 3) := by decide +kernel
theorem d_mo_silled_30 : decode prog_7_method_30_code 30 = .ok (.iload_n 1, 1) := by decide +kernel
theorem d_mo_silled_31 : decode prog_7_method_30_code 31 = .ok (.iaload, 1) := by decide +kernel
theorem d_mo_silled_32 : decode prog_7_method_30_code 32 = .ok (.imul, 1) := by decide +kernel
theorem d_mo_silled_33 : decode prog_7_method_30_code 33 = .ok (.ireturn, 1) := by decide +kernel
theorem d_mo_ownHeight_0 : decode prog_7_method_31_code 0 = .ok (.aload_n 0, 1) := by decide +kernel
theorem d_mo_ownHeight_1 : decode prog_7_method_31_code 1 = .ok (.getfield 7, 3) := by decide +kernel
theorem d_mo_ownHeight_4 : decode prog_7_method_31_code 4 = .ok (.iload_n 1, 1) := by decide +kernel
theorem d_mo_ownHeight_5 : decode prog_7_method_31_code 5 = .ok (.iaload, 1) := by decide +kernel
theorem d_mo_ownHeight_6 : decode prog_7_method_31_code 6 = .ok (.tableswitch 117 1 4 #[30, 37, 117, 86], 30) := by decide +kernel
theorem d_mo_ownHeight_36 : decode prog_7_method_31_code 36 = .ok (.aload_n 0, 1) := by decide +kernel
theorem d_mo_ownHeight_37 : decode prog_7_method_31_code 37 = .ok (.iload_n 1, 1) := by decide +kernel
theorem d_mo_ownHeight_38 : decode prog_7_method_31_code 38 = .ok (.iload_n 2, 1) := by decide +kernel
theorem d_mo_ownHeight_39 : decode prog_7_method_31_code 39 = .ok (.invokevirtual 176, 3) := by decide +kernel
theorem d_mo_ownHeight_42 : decode prog_7_method_31_code 42 = .ok (.ireturn, 1) := by decide +kernel
theorem d_mo_ownHeight_43 : decode prog_7_method_31_code 43 = .ok (.aload_n 0, 1) := by decide +kernel
theorem d_mo_ownHeight_44 : decode prog_7_method_31_code 44 = .ok (.iload_n 1, 1) := by decide +kernel
theorem d_mo_ownHeight_45 : decode prog_7_method_31_code 45 = .ok (.iload_n 2, 1) := by decide +kernel
theorem d_mo_ownHeight_46 : decode prog_7_method_31_code 46 = .ok (.invokevirtual 176, 3) := by decide +kernel
theorem d_mo_ownHeight_49 : decode prog_7_method_31_code 49 = .ok (.istore_n 3, 1) := by decide +kernel
theorem d_mo_ownHeight_50 : decode prog_7_method_31_code 50 = .ok (.iconst 1, 1) := by decide +kernel
theorem d_mo_ownHeight_51 : decode prog_7_method_31_code 51 = .ok (.istore 4, 2) := by decide +kernel
theorem d_mo_ownHeight_53 : decode prog_7_method_31_code 53 = .ok (.iload 4, 2) := by decide +kernel
theorem d_mo_ownHeight_55 : decode prog_7_method_31_code 55 = .ok (.bipush 6, 2) := by decide +kernel
theorem d_mo_ownHeight_57 : decode prog_7_method_31_code 57 = .ok (.if_icmp .gt 33, 3) := by decide +kernel
theorem d_mo_ownHeight_60 : decode prog_7_method_31_code 60 = .ok (.aload_n 0, 1) := by decide +kernel
theorem d_mo_ownHeight_61 : decode prog_7_method_31_code 61 = .ok (.iload_n 1, 1) := by decide +kernel
theorem d_mo_ownHeight_62 : decode prog_7_method_31_code 62 = .ok (.iload_n 2, 1) := by decide +kernel
theorem d_mo_ownHeight_63 : decode prog_7_method_31_code 63 = .ok (.iload 4, 2) := by decide +kernel
theorem d_mo_ownHeight_65 : decode prog_7_method_31_code 65 = .ok (.isub, 1) := by decide +kernel
theorem d_mo_ownHeight_66 : decode prog_7_method_31_code 66 = .ok (.invokevirtual 176, 3) := by decide +kernel
theorem d_mo_ownHeight_69 : decode prog_7_method_31_code 69 = .ok (.istore 5, 2) := by decide +kernel
theorem d_mo_ownHeight_71 : decode prog_7_method_31_code 71 = .ok (.iload 5, 2) := by decide +kernel
theorem d_mo_ownHeight_73 : decode prog_7_method_31_code 73 = .ok (.iload_n 3, 1) := by decide +kernel
theorem d_mo_ownHeight_74 : decode prog_7_method_31_code 74 = .ok (.if_icmp .le 8, 3) := by decide +kernel
theorem d_mo_ownHeight_77 : decode prog_7_method_31_code 77 = .ok (.iload 5, 2) := by decide +kernel
theorem d_mo_ownHeight_79 : decode prog_7_method_31_code 79 = .ok (.goto 4, 3) := by decide +kernel
theorem d_mo_ownHeight_82 : decode prog_7_method_31_code 82 = .ok (.iload_n 3, 1) := by decide +kernel
theorem d_mo_ownHeight_83 : decode prog_7_method_31_code 83 = .ok (.istore_n 3, 1) := by decide +kernel
theorem d_mo_ownHeight_84 : decode prog_7_method_31_code 84 = .ok (.iinc 4 1, 3) := by decide +kernel
theorem d_mo_ownHeight_87 : decode prog_7_method_31_code 87 = .ok (.goto (-34), 3) := by decide +kernel
theorem d_mo_ownHeight_90 : decode prog_7_method_31_code 90 = .ok (.iload_n 3, 1) := by decide +kernel
theorem d_mo_ownHeight_91 : decode prog_7_method_31_code 91 = .ok (.ireturn, 1) := by decide +kernel
theorem d_mo_ownHeight_92 : decode prog_7_method_31_code 92 = .ok (.aload_n 0, 1) := by decide +kernel
theorem d_mo_ownHeight_93 : decode prog_7_method_31_code 93 = .ok (.iload_n 1, 1) := by decide +kernel
theorem d_mo_ownHeight_94 : decode prog_7_method_31_code 94 = .ok (.iload_n 2, 1) := by decide +kernel
theorem d_mo_ownHeight_95 : decode prog_7_method_31_code 95 = .ok (.invokevirtual 173, 3) := by decide +kernel
theorem d_mo_ownHeight_98 : decode prog_7_method_31_code 98 = .ok (.iload_n 2, 1) := by decide +kernel
theorem d_mo_ownHeight_99 : decode prog_7_method_31_code 99 = .ok (.sipush 144, 3) := by decide +kernel
theorem d_mo_ownHeight_102 : decode prog_7_method_31_code 102 = .ok (.invokestatic 167, 3) := by decide +kernel
theorem d_mo_ownHeight_105 : decode prog_7_method_31_code 105 = .ok (.iconst 1, 1) := by decide +kernel
theorem d_mo_ownHeight_106 : decode prog_7_method_31_code 106 = .ok (.iand, 1) := by decide +kernel
theorem d_mo_ownHeight_107 : decode prog_7_method_31_code 107 = .ok (.iconst 1, 1) := by decide +kernel
theorem d_mo_ownHeight_108 : decode prog_7_method_31_code 108 = .ok (.if_icmp .ne 12, 3) := by decide +kernel
theorem d_mo_ownHeight_111 : decode prog_7_method_31_code 111 = .ok (.aload_n 0, 1) := by decide +kernel
theorem d_mo_ownHeight_112 : decode prog_7_method_31_code 112 = .ok (.getfield 16, 3) := by decide +kernel
theorem d_mo_ownHeight_115 : decode prog_7_method_31_code 115 = .ok (.iload_n 1, 1) := by decide +kernel
theorem d_mo_ownHeight_116 : decode prog_7_method_31_code 116 = .ok (.iaload, 1) := by decide +kernel
theorem d_mo_ownHeight_117 : decode prog_7_method_31_code 117 = .ok (.goto 4, 3) := by decide +kernel
theorem d_mo_ownHeight_120 : decode prog_7_method_31_code 120 = .ok (.iconst 0, 1) := by decide +kernel
theorem d_mo_ownHeight_121 : decode prog_7_method_31_code 121 = .ok (.iadd, 1) := by decide +kernel
theorem d_mo_ownHeight_122 : decode prog_7_method_31_code 122 = .ok (.ireturn, 1) := by decide +kernel
theorem d_mo_ownHeight_123 : decode prog_7_method_31_code 123 = .ok (.aload_n 0, 1) := by decide +kernel
theorem d_mo_ownHeight_124 : decode prog_7_method_31_code 124 = .ok (.iload_n 1, 1) := by decide +kernel
theorem d_mo_ownHeight_125 : decode prog_7_method_31_code 125 = .ok (.iload_n 2, 1) := by decide +kernel
theorem d_mo_ownHeight_126 : decode prog_7_method_31_code 126 = .ok (.invokevirtual 173, 3) := by decide +kernel
theorem d_mo_ownHeight_129 : decode prog_7_method_31_code 129 = .ok (.ireturn, 1) := by decide +kernel
theorem d_mo_heightAt_0 : decode prog_7_method_32_code 0 = .ok (.aload_n 0, 1) := by decide +kernel
theorem d_mo_heightAt_1 : decode prog_7_method_32_code 1 = .ok (.getfield 7, 3) := by decide +kernel
theorem d_mo_heightAt_4 : decode prog_7_method_32_code 4 = .ok (.iload_n 1, 1) := by decide +kernel
theorem d_mo_heightAt_5 : decode prog_7_method_32_code 5 = .ok (.iaload, 1) := by decide +kernel
theorem d_mo_heightAt_6 : decode prog_7_method_32_code 6 = .ok (.iconst 3, 1) := by decide +kernel
theorem d_mo_heightAt_7 : decode prog_7_method_32_code 7 = .ok (.if_icmp .eq 10, 3) := by decide +kernel
theorem d_mo_heightAt_10 : decode prog_7_method_32_code 10 = .ok (.aload_n 0, 1) := by decide +kernel
theorem d_mo_heightAt_11 : decode prog_7_method_32_code 11 = .ok (.iload_n 1, 1) := by decide +kernel
theorem d_mo_heightAt_12 : decode prog_7_method_32_code 12 = .ok (.iload_n 2, 1) := by decide +kernel
theorem d_mo_heightAt_13 : decode prog_7_method_32_code 13 = .ok (.invokevirtual 179, 3) := by decide +kernel
theorem d_mo_heightAt_16 : decode prog_7_method_32_code 16 = .ok (.ireturn, 1) := by decide +kernel
theorem d_mo_heightAt_17 : decode prog_7_method_32_code 17 = .ok (.aload_n 0, 1) := by decide +kernel
theorem d_mo_heightAt_18 : decode prog_7_method_32_code 18 = .ok (.iconst 0, 1) := by decide +kernel
theorem d_mo_heightAt_19 : decode prog_7_method_32_code 19 = .ok (.iload_n 2, 1) := by decide +kernel
theorem d_mo_heightAt_20 : decode prog_7_method_32_code 20 = .ok (.aload_n 0, 1) := by decide +kernel
theorem d_mo_heightAt_21 : decode prog_7_method_32_code 21 = .ok (.getfield 16, 3) := by decide +kernel
theorem d_mo_heightAt_24 : decode prog_7_method_32_code 24 = .ok (.iload_n 1, 1) := by decide +kernel
theorem d_mo_heightAt_25 : decode prog_7_method_32_code 25 = .ok (.iaload, 1) := by decide +kernel
theorem d_mo_heightAt_26 : decode prog_7_method_32_code 26 = .ok (.isub, 1) := by decide +kernel
theorem d_mo_heightAt_27 : decode prog_7_method_32_code 27 = .ok (.invokevirtual 179, 3) := by decide +kernel
theorem d_mo_heightAt_30 : decode prog_7_method_32_code 30 = .ok (.aload_n 0, 1) := by decide +kernel
theorem d_mo_heightAt_31 : decode prog_7_method_32_code 31 = .ok (.getfield 19, 3) := by decide +kernel
theorem d_mo_heightAt_34 : decode prog_7_method_32_code 34 = .ok (.iload_n 1, 1) := by decide +kernel
theorem d_mo_heightAt_35 : decode prog_7_method_32_code 35 = .ok (.iaload, 1) := by decide +kernel
theorem d_mo_heightAt_36 : decode prog_7_method_32_code 36 = .ok (.imul, 1) := by decide +kernel
theorem d_mo_heightAt_37 : decode prog_7_method_32_code 37 = .ok (.bipush 100, 2) := by decide +kernel
theorem d_mo_heightAt_39 : decode prog_7_method_32_code 39 = .ok (.invokestatic 167, 3) := by decide +kernel
theorem d_mo_heightAt_42 : decode prog_7_method_32_code 42 = .ok (.bipush 10, 2) := by decide +kernel
theorem d_mo_heightAt_44 : decode prog_7_method_32_code 44 = .ok (.aload_n 0, 1) := by decide +kernel
theorem d_mo_heightAt_45 : decode prog_7_method_32_code 45 = .ok (.getfield 13, 3) := by decide +kernel
theorem d_mo_heightAt_48 : decode prog_7_method_32_code 48 = .ok (.iload_n 1, 1) := by decide +kernel
theorem d_mo_heightAt_49 : decode prog_7_method_32_code 49 = .ok (.iaload, 1) := by decide +kernel
theorem d_mo_heightAt_50 : decode prog_7_method_32_code 50 = .ok (.imul, 1) := by decide +kernel
theorem d_mo_heightAt_51 : decode prog_7_method_32_code 51 = .ok (.iadd, 1) := by decide +kernel
theorem d_mo_heightAt_52 : decode prog_7_method_32_code 52 = .ok (.ireturn, 1) := by decide +kernel
theorem d_mo_isTick_0 : decode prog_7_method_33_code 0 = .ok (.iload_n 0, 1) := by decide +kernel
theorem d_mo_isTick_1 : decode prog_7_method_33_code 1 = .ok (.iconst 0, 1) := by decide +kernel
theorem d_mo_isTick_2 : decode prog_7_method_33_code 2 = .ok (.sipush 1439, 3) := by decide +kernel
theorem d_mo_isTick_5 : decode prog_7_method_33_code 5 = .ok (.invokestatic 93, 3) := by decide +kernel
theorem d_mo_isTick_8 : decode prog_7_method_33_code 8 = .ok (.ireturn, 1) := by decide +kernel
theorem d_mo_sum_0 : decode prog_7_method_34_code 0 = .ok (.aload_n 0, 1) := by decide +kernel
theorem d_mo_sum_1 : decode prog_7_method_34_code 1 = .ok (.iload_n 1, 1) := by decide +kernel
theorem d_mo_sum_2 : decode prog_7_method_34_code 2 = .ok (.invokevirtual 147, 3) := by decide +kernel
theorem d_mo_sum_5 : decode prog_7_method_34_code 5 = .ok (.ifCond .ne 9, 3) := by decide +kernel
theorem d_mo_sum_8 : decode prog_7_method_34_code 8 = .ok (.sipush (-10101), 3) := by decide +kernel
theorem d_mo_sum_11 : decode prog_7_method_34_code 11 = .ok (.goto 22, 3) := by decide +kernel
theorem d_mo_sum_14 : decode prog_7_method_34_code 14 = .ok (.iload_n 2, 1) := by decide +kernel
theorem d_mo_sum_15 : decode prog_7_method_34_code 15 = .ok (.invokestatic 182, 3) := by decide +kernel
theorem d_mo_sum_18 : decode prog_7_method_34_code 18 = .ok (.ifCond .eq 12, 3) := by decide +kernel
theorem d_mo_sum_21 : decode prog_7_method_34_code 21 = .ok (.aload_n 0, 1) := by decide +kernel
theorem d_mo_sum_22 : decode prog_7_method_34_code 22 = .ok (.iload_n 1, 1) := by decide +kernel
theorem d_mo_sum_23 : decode prog_7_method_34_code 23 = .ok (.iload_n 2, 1) := by decide +kernel
theorem d_mo_sum_24 : decode prog_7_method_34_code 24 = .ok (.invokevirtual 173, 3) := by decide +kernel
theorem d_mo_sum_27 : decode prog_7_method_34_code 27 = .ok (.goto 6, 3) := by decide +kernel
theorem d_mo_sum_30 : decode prog_7_method_34_code 30 = .ok (.sipush (-10102), 3) := by decide +kernel
theorem d_mo_sum_33 : decode prog_7_method_34_code 33 = .ok (.ireturn, 1) := by decide +kernel
theorem d_mo_height_0 : decode prog_7_method_35_code 0 = .ok (.aload_n 0, 1) := by decide +kernel
theorem d_mo_height_1 : decode prog_7_method_35_code 1 = .ok (.iload_n 1, 1) := by decide +kernel
theorem d_mo_height_2 : decode prog_7_method_35_code 2 = .ok (.invokevirtual 147, 3) := by decide +kernel
theorem d_mo_height_5 : decode prog_7_method_35_code 5 = .ok (.ifCond .ne 9, 3) := by decide +kernel
theorem d_mo_height_8 : decode prog_7_method_35_code 8 = .ok (.sipush (-10101), 3) := by decide +kernel
theorem d_mo_height_11 : decode prog_7_method_35_code 11 = .ok (.goto 22, 3) := by decide +kernel
theorem d_mo_height_14 : decode prog_7_method_35_code 14 = .ok (.iload_n 2, 1) := by decide +kernel
theorem d_mo_height_15 : decode prog_7_method_35_code 15 = .ok (.invokestatic 182, 3) := by decide +kernel
theorem d_mo_height_18 : decode prog_7_method_35_code 18 = .ok (.ifCond .eq 12, 3) := by decide +kernel
theorem d_mo_height_21 : decode prog_7_method_35_code 21 = .ok (.aload_n 0, 1) := by decide +kernel
theorem d_mo_height_22 : decode prog_7_method_35_code 22 = .ok (.iload_n 1, 1) := by decide +kernel
theorem d_mo_height_23 : decode prog_7_method_35_code 23 = .ok (.iload_n 2, 1) := by decide +kernel
theorem d_mo_height_24 : decode prog_7_method_35_code 24 = .ok (.invokevirtual 185, 3) := by decide +kernel
theorem d_mo_height_27 : decode prog_7_method_35_code 27 = .ok (.goto 6, 3) := by decide +kernel
theorem d_mo_height_30 : decode prog_7_method_35_code 30 = .ok (.sipush (-10102), 3) := by decide +kernel
theorem d_mo_height_33 : decode prog_7_method_35_code 33 = .ok (.ireturn, 1) := by decide +kernel
theorem d_mo_then_0 : decode prog_7_method_36_code 0 = .ok (.aload_n 0, 1) := by decide +kernel
theorem d_mo_then_1 : decode prog_7_method_36_code 1 = .ok (.iload_n 1, 1) := by decide +kernel
theorem d_mo_then_2 : decode prog_7_method_36_code 2 = .ok (.iload_n 2, 1) := by decide +kernel
theorem d_mo_then_3 : decode prog_7_method_36_code 3 = .ok (.invokevirtual 185, 3) := by decide +kernel
theorem d_mo_then_6 : decode prog_7_method_36_code 6 = .ok (.istore_n 3, 1) := by decide +kernel
theorem d_mo_then_7 : decode prog_7_method_36_code 7 = .ok (.iconst 1, 1) := by decide +kernel
theorem d_mo_then_8 : decode prog_7_method_36_code 8 = .ok (.istore 4, 2) := by decide +kernel
theorem d_mo_then_10 : decode prog_7_method_36_code 10 = .ok (.iload 4, 2) := by decide +kernel
theorem d_mo_then_12 : decode prog_7_method_36_code 12 = .ok (.sipush 144, 3) := by decide +kernel
theorem d_mo_then_15 : decode prog_7_method_36_code 15 = .ok (.if_icmp .gt 31, 3) := by decide +kernel
theorem d_mo_then_18 : decode prog_7_method_36_code 18 = .ok (.aload_n 0, 1) := by decide +kernel
theorem d_mo_then_19 : decode prog_7_method_36_code 19 = .ok (.iload_n 1, 1) := by decide +kernel
theorem d_mo_then_20 : decode prog_7_method_36_code 20 = .ok (.iload_n 2, 1) := by decide +kernel
theorem d_mo_then_21 : decode prog_7_method_36_code 21 = .ok (.iload 4, 2) := by decide +kernel
theorem d_mo_then_23 : decode prog_7_method_36_code 23 = .ok (.iadd, 1) := by decide +kernel
theorem d_mo_then_24 : decode prog_7_method_36_code 24 = .ok (.invokevirtual 185, 3) := by decide +kernel
theorem d_mo_then_27 : decode prog_7_method_36_code 27 = .ok (.istore 5, 2) := by decide +kernel
theorem d_mo_then_29 : decode prog_7_method_36_code 29 = .ok (.iload 5, 2) := by decide +kernel
theorem d_mo_then_31 : decode prog_7_method_36_code 31 = .ok (.iload_n 3, 1) := by decide +kernel
theorem d_mo_then_32 : decode prog_7_method_36_code 32 = .ok (.if_icmp .eq 8, 3) := by decide +kernel
theorem d_mo_then_35 : decode prog_7_method_36_code 35 = .ok (.iload 5, 2) := by decide +kernel
theorem d_mo_then_37 : decode prog_7_method_36_code 37 = .ok (.iload_n 3, 1) := by decide +kernel
theorem d_mo_then_38 : decode prog_7_method_36_code 38 = .ok (.isub, 1) := by decide +kernel
theorem d_mo_then_39 : decode prog_7_method_36_code 39 = .ok (.ireturn, 1) := by decide +kernel
theorem d_mo_then_40 : decode prog_7_method_36_code 40 = .ok (.iinc 4 1, 3) := by decide +kernel
theorem d_mo_then_43 : decode prog_7_method_36_code 43 = .ok (.goto (-33), 3) := by decide +kernel
theorem d_mo_then_46 : decode prog_7_method_36_code 46 = .ok (.iconst 0, 1) := by decide +kernel
theorem d_mo_then_47 : decode prog_7_method_36_code 47 = .ok (.ireturn, 1) := by decide +kernel
theorem d_mo_turnsAt_0 : decode prog_7_method_37_code 0 = .ok (.aload_n 0, 1) := by decide +kernel
theorem d_mo_turnsAt_1 : decode prog_7_method_37_code 1 = .ok (.iload_n 1, 1) := by decide +kernel
theorem d_mo_turnsAt_2 : decode prog_7_method_37_code 2 = .ok (.iload_n 2, 1) := by decide +kernel
theorem d_mo_turnsAt_3 : decode prog_7_method_37_code 3 = .ok (.invokevirtual 185, 3) := by decide +kernel
theorem d_mo_turnsAt_6 : decode prog_7_method_37_code 6 = .ok (.aload_n 0, 1) := by decide +kernel
theorem d_mo_turnsAt_7 : decode prog_7_method_37_code 7 = .ok (.iload_n 1, 1) := by decide +kernel
theorem d_mo_turnsAt_8 : decode prog_7_method_37_code 8 = .ok (.iload_n 2, 1) := by decide +kernel
theorem d_mo_turnsAt_9 : decode prog_7_method_37_code 9 = .ok (.iconst 1, 1) := by decide +kernel
theorem d_mo_turnsAt_10 : decode prog_7_method_37_code 10 = .ok (.isub, 1) := by decide +kernel
theorem d_mo_turnsAt_11 : decode prog_7_method_37_code 11 = .ok (.invokevirtual 185, 3) := by decide +kernel
theorem d_mo_turnsAt_14 : decode prog_7_method_37_code 14 = .ok (.isub, 1) := by decide +kernel
theorem d_mo_turnsAt_15 : decode prog_7_method_37_code 15 = .ok (.istore_n 3, 1) := by decide +kernel
theorem d_mo_turnsAt_16 : decode prog_7_method_37_code 16 = .ok (.iload_n 3, 1) := by decide +kernel
theorem d_mo_turnsAt_17 : decode prog_7_method_37_code 17 = .ok (.ifCond .ne 7, 3) := by decide +kernel
theorem d_mo_turnsAt_20 : decode prog_7_method_37_code 20 = .ok (.sipush (-10001), 3) := by decide +kernel
theorem d_mo_turnsAt_23 : decode prog_7_method_37_code 23 = .ok (.ireturn, 1) := by decide +kernel
theorem d_mo_turnsAt_24 : decode prog_7_method_37_code 24 = .ok (.aload_n 0, 1) := by decide +kernel
theorem d_mo_turnsAt_25 : decode prog_7_method_37_code 25 = .ok (.iload_n 1, 1) := by decide +kernel
theorem d_mo_turnsAt_26 : decode prog_7_method_37_code 26 = .ok (.iload_n 2, 1) := by decide +kernel
theorem d_mo_turnsAt_27 : decode prog_7_method_37_code 27 = .ok (.invokevirtual 188, 3) := by decide +kernel
theorem d_mo_turnsAt_30 : decode prog_7_method_37_code 30 = .ok (.istore 4, 2) := by decide +kernel
theorem d_mo_turnsAt_32 : decode prog_7_method_37_code 32 = .ok (.iload_n 3, 1) := by decide +kernel
theorem d_mo_turnsAt_33 : decode prog_7_method_37_code 33 = .ok (.ifCond .le 12, 3) := by decide +kernel
theorem d_mo_turnsAt_36 : decode prog_7_method_37_code 36 = .ok (.iload 4, 2) := by decide +kernel
theorem d_mo_turnsAt_38 : decode prog_7_method_37_code 38 = .ok (.ifCond .ge 7, 3) := by decide +kernel
theorem d_mo_turnsAt_41 : decode prog_7_method_37_code 41 = .ok (.iconst 1, 1) := by decide +kernel
theorem d_mo_turnsAt_42 : decode prog_7_method_37_code 42 = .ok (.goto 19, 3) := by decide +kernel
theorem d_mo_turnsAt_45 : decode prog_7_method_37_code 45 = .ok (.iload_n 3, 1) := by decide +kernel
theorem d_mo_turnsAt_46 : decode prog_7_method_37_code 46 = .ok (.ifCond .ge 12, 3) := by decide +kernel
theorem d_mo_turnsAt_49 : decode prog_7_method_37_code 49 = .ok (.iload 4, 2) := by decide +kernel
theorem d_mo_turnsAt_51 : decode prog_7_method_37_code 51 = .ok (.ifCond .le 7, 3) := by decide +kernel
theorem d_mo_turnsAt_54 : decode prog_7_method_37_code 54 = .ok (.iconst 0, 1) := by decide +kernel
theorem d_mo_turnsAt_55 : decode prog_7_method_37_code 55 = .ok (.goto 6, 3) := by decide +kernel
theorem d_mo_turnsAt_58 : decode prog_7_method_37_code 58 = .ok (.sipush (-10001), 3) := by decide +kernel
theorem d_mo_turnsAt_61 : decode prog_7_method_37_code 61 = .ok (.ireturn, 1) := by decide +kernel
theorem d_mo_isDay_0 : decode prog_7_method_38_code 0 = .ok (.iload_n 0, 1) := by decide +kernel
theorem d_mo_isDay_1 : decode prog_7_method_38_code 1 = .ok (.iconst 0, 1) := by decide +kernel
theorem d_mo_isDay_2 : decode prog_7_method_38_code 2 = .ok (.bipush 9, 2) := by decide +kernel
theorem d_mo_isDay_4 : decode prog_7_method_38_code 4 = .ok (.invokestatic 93, 3) := by decide +kernel
theorem d_mo_isDay_7 : decode prog_7_method_38_code 7 = .ok (.ireturn, 1) := by decide +kernel
theorem d_mo_isNeed_0 : decode prog_7_method_39_code 0 = .ok (.iload_n 0, 1) := by decide +kernel
theorem d_mo_isNeed_1 : decode prog_7_method_39_code 1 = .ok (.sipush (-2000), 3) := by decide +kernel
theorem d_mo_isNeed_4 : decode prog_7_method_39_code 4 = .ok (.sipush 4000, 3) := by decide +kernel
theorem d_mo_isNeed_7 : decode prog_7_method_39_code 7 = .ok (.invokestatic 93, 3) := by decide +kernel
theorem d_mo_isNeed_10 : decode prog_7_method_39_code 10 = .ok (.ireturn, 1) := by decide +kernel
theorem d_mo_tideNow_0 : decode prog_7_method_40_code 0 = .ok (.iload_n 3, 1) := by decide +kernel
theorem d_mo_tideNow_1 : decode prog_7_method_40_code 1 = .ok (.istore 5, 2) := by decide +kernel
theorem d_mo_tideNow_3 : decode prog_7_method_40_code 3 = .ok (.sipush 144, 3) := by decide +kernel
theorem d_mo_tideNow_6 : decode prog_7_method_40_code 6 = .ok (.iload_n 2, 1) := by decide +kernel
theorem d_mo_tideNow_7 : decode prog_7_method_40_code 7 = .ok (.imul, 1) := by decide +kernel
theorem d_mo_tideNow_8 : decode prog_7_method_40_code 8 = .ok (.istore 6, 2) := by decide +kernel
theorem d_mo_tideNow_10 : decode prog_7_method_40_code 10 = .ok (.iload 6, 2) := by decide +kernel
theorem d_mo_tideNow_12 : decode prog_7_method_40_code 12 = .ok (.sipush 144, 3) := by decide +kernel
theorem d_mo_tideNow_15 : decode prog_7_method_40_code 15 = .ok (.iload_n 2, 1) := by decide +kernel
theorem d_mo_tideNow_16 : decode prog_7_method_40_code 16 = .ok (.iconst 1, 1) := by decide +kernel
theorem d_mo_tideNow_17 : decode prog_7_method_40_code 17 = .ok (.iadd, 1) := by decide +kernel
theorem d_mo_tideNow_18 : decode prog_7_method_40_code 18 = .ok (.imul, 1) := by decide +kernel
theorem d_mo_tideNow_19 : decode prog_7_method_40_code 19 = .ok (.if_icmp .ge 82, 3) := by decide +kernel
theorem d_mo_tideNow_22 : decode prog_7_method_40_code 22 = .ok (.iload_n 3, 1) := by decide +kernel
theorem d_mo_tideNow_23 : decode prog_7_method_40_code 23 = .ok (.ifCond .lt 78, 3) := by decide +kernel
theorem d_mo_tideNow_26 : decode prog_7_method_40_code 26 = .ok (.aload_n 0, 1) := by decide +kernel
theorem d_mo_tideNow_27 : decode prog_7_method_40_code 27 = .ok (.iload_n 1, 1) := by decide +kernel
theorem d_mo_tideNow_28 : decode prog_7_method_40_code 28 = .ok (.iload 6, 2) := by decide +kernel
theorem d_mo_tideNow_30 : decode prog_7_method_40_code 30 = .ok (.invokevirtual 191, 3) := by decide +kernel
theorem d_mo_tideNow_33 : decode prog_7_method_40_code 33 = .ok (.istore 7, 2) := by decide +kernel
theorem d_mo_tideNow_35 : decode prog_7_method_40_code 35 = .ok (.iload 7, 2) := by decide +kernel
theorem d_mo_tideNow_37 : decode prog_7_method_40_code 37 = .ok (.sipush (-10001), 3) := by decide +kernel
theorem d_mo_tideNow_40 : decode prog_7_method_40_code 40 = .ok (.if_icmp .eq 37, 3) := by decide +kernel
theorem d_mo_tideNow_43 : decode prog_7_method_40_code 43 = .ok (.iload 5, 2) := by decide +kernel
theorem d_mo_tideNow_45 : decode prog_7_method_40_code 45 = .ok (.ifCond .ne 32, 3) := by decide +kernel
theorem d_mo_tideNow_48 : decode prog_7_method_40_code 48 = .ok (.iload 4, 2) := by decide +kernel
theorem d_mo_tideNow_50 : decode prog_7_method_40_code 50 = .ok (.ifCond .ne 8, 3) := by decide +kernel
theorem d_mo_tideNow_53 : decode prog_7_method_40_code 53 = .ok (.iload 6, 2) := by decide +kernel
theorem d_mo_tideNow_55 : decode prog_7_method_40_code 55 = .ok (.goto 21, 3) := by decide +kernel
theorem d_mo_tideNow_58 : decode prog_7_method_40_code 58 = .ok (.iload 4, 2) := by decide +kernel
theorem d_mo_tideNow_60 : decode prog_7_method_40_code 60 = .ok (.iconst 1, 1) := by decide +kernel
theorem d_mo_tideNow_61 : decode prog_7_method_40_code 61 = .ok (.if_icmp .ne 8, 3) := by decide +kernel
theorem d_mo_tideNow_64 : decode prog_7_method_40_code 64 = .ok (.iload 7, 2) := by decide +kernel
theorem d_mo_tideNow_66 : decode prog_7_method_40_code 66 = .ok (.goto 10, 3) := by decide +kernel
theorem d_mo_tideNow_69 : decode prog_7_method_40_code 69 = .ok (.aload_n 0, 1) := by decide +kernel
theorem d_mo_tideNow_70 : decode prog_7_method_40_code 70 = .ok (.iload_n 1, 1) := by decide +kernel
theorem d_mo_tideNow_71 : decode prog_7_method_40_code 71 = .ok (.iload 6, 2) := by decide +kernel
theorem d_mo_tideNow_73 : decode prog_7_method_40_code 73 = .ok (.invokevirtual 185, 3) := by decide +kernel
theorem d_mo_tideNow_76 : decode prog_7_method_40_code 76 = .ok (.ireturn, 1) := by decide +kernel
theorem d_mo_tideNow_77 : decode prog_7_method_40_code 77 = .ok (.iload 5, 2) := by decide +kernel
theorem d_mo_tideNow_79 : decode prog_7_method_40_code 79 = .ok (.iload 7, 2) := by decide +kernel
theorem d_mo_tideNow_81 : decode prog_7_method_40_code 81 = .ok (.sipush (-10001), 3) := by decide +kernel
theorem d_mo_tideNow_84 : decode prog_7_method_40_code 84 = .ok (.if_icmp .eq 7, 3) := by decide +kernel
theorem d_mo_tideNow_87 : decode prog_7_method_40_code 87 = .ok (.iconst 1, 1) := by decide +kernel
theorem d_mo_tideNow_88 : decode prog_7_method_40_code 88 = .ok (.goto 4, 3) := by decide +kernel
theorem d_mo_tideNow_91 : decode prog_7_method_40_code 91 = .ok (.iconst 0, 1) := by decide +kernel
theorem d_mo_tideNow_92 : decode prog_7_method_40_code 92 = .ok (.isub, 1) := by decide +kernel
theorem d_mo_tideNow_93 : decode prog_7_method_40_code 93 = .ok (.istore 5, 2) := by decide +kernel
theorem d_mo_tideNow_95 : decode prog_7_method_40_code 95 = .ok (.iinc 6 1, 3) := by decide +kernel
theorem d_mo_tideNow_98 : decode prog_7_method_40_code 98 = .ok (.goto (-88), 3) := by decide +kernel
theorem d_mo_tideNow_101 : decode prog_7_method_40_code 101 = .ok (.sipush (-10101), 3) := by decide +kernel
theorem d_mo_tideNow_104 : decode prog_7_method_40_code 104 = .ok (.ireturn, 1) := by decide +kernel
theorem d_mo_tide_0 : decode prog_7_method_41_code 0 = .ok (.aload_n 0, 1) := by decide +kernel
theorem d_mo_tide_1 : decode prog_7_method_41_code 1 = .ok (.iload_n 1, 1) := by decide +kernel
theorem d_mo_tide_2 : decode prog_7_method_41_code 2 = .ok (.invokevirtual 147, 3) := by decide +kernel
theorem d_mo_tide_5 : decode prog_7_method_41_code 5 = .ok (.ifCond .ne 7, 3) := by decide +kernel
theorem d_mo_tide_8 : decode prog_7_method_41_code 8 = .ok (.sipush (-10101), 3) := by decide +kernel
theorem d_mo_tide_11 : decode prog_7_method_41_code 11 = .ok (.ireturn, 1) := by decide +kernel
theorem d_mo_tide_12 : decode prog_7_method_41_code 12 = .ok (.iload_n 2, 1) := by decide +kernel
theorem d_mo_tide_13 : decode prog_7_method_41_code 13 = .ok (.invokestatic 194, 3) := by decide +kernel
theorem d_mo_tide_16 : decode prog_7_method_41_code 16 = .ok (.ifCond .ne 7, 3) := by decide +kernel
theorem d_mo_tide_19 : decode prog_7_method_41_code 19 = .ok (.sipush (-10102), 3) := by decide +kernel
theorem d_mo_tide_22 : decode prog_7_method_41_code 22 = .ok (.ireturn, 1) := by decide +kernel
theorem d_mo_tide_23 : decode prog_7_method_41_code 23 = .ok (.aload_n 0, 1) := by decide +kernel
theorem d_mo_tide_24 : decode prog_7_method_41_code 24 = .ok (.iload_n 1, 1) := by decide +kernel
theorem d_mo_tide_25 : decode prog_7_method_41_code 25 = .ok (.iload_n 2, 1) := by decide +kernel
theorem d_mo_tide_26 : decode prog_7_method_41_code 26 = .ok (.iload_n 3, 1) := by decide +kernel
theorem d_mo_tide_27 : decode prog_7_method_41_code 27 = .ok (.iconst 0, 1) := by decide +kernel
theorem d_mo_tide_28 : decode prog_7_method_41_code 28 = .ok (.invokevirtual 197, 3) := by decide +kernel
theorem d_mo_tide_31 : decode prog_7_method_41_code 31 = .ok (.sipush (-10101), 3) := by decide +kernel
theorem d_mo_tide_34 : decode prog_7_method_41_code 34 = .ok (.if_icmp .ne 9, 3) := by decide +kernel
theorem d_mo_tide_37 : decode prog_7_method_41_code 37 = .ok (.sipush (-10101), 3) := by decide +kernel
theorem d_mo_tide_40 : decode prog_7_method_41_code 40 = .ok (.goto 28, 3) := by decide +kernel
theorem d_mo_tide_43 : decode prog_7_method_41_code 43 = .ok (.iload 4, 2) := by decide +kernel
theorem d_mo_tide_45 : decode prog_7_method_41_code 45 = .ok (.iconst 0, 1) := by decide +kernel
theorem d_mo_tide_46 : decode prog_7_method_41_code 46 = .ok (.iconst 2, 1) := by decide +kernel
theorem d_mo_tide_47 : decode prog_7_method_41_code 47 = .ok (.invokestatic 93, 3) := by decide +kernel
theorem d_mo_tide_50 : decode prog_7_method_41_code 50 = .ok (.ifCond .eq 15, 3) := by decide +kernel
theorem d_mo_tide_53 : decode prog_7_method_41_code 53 = .ok (.aload_n 0, 1) := by decide +kernel
theorem d_mo_tide_54 : decode prog_7_method_41_code 54 = .ok (.iload_n 1, 1) := by decide +kernel
theorem d_mo_tide_55 : decode prog_7_method_41_code 55 = .ok (.iload_n 2, 1) := by decide +kernel
theorem d_mo_tide_56 : decode prog_7_method_41_code 56 = .ok (.iload_n 3, 1) := by decide +kernel
theorem d_mo_tide_57 : decode prog_7_method_41_code 57 = .ok (.iload 4, 2) := by decide +kernel
theorem d_mo_tide_59 : decode prog_7_method_41_code 59 = .ok (.invokevirtual 197, 3) := by decide +kernel
theorem d_mo_tide_62 : decode prog_7_method_41_code 62 = .ok (.goto 6, 3) := by decide +kernel
theorem d_mo_tide_65 : decode prog_7_method_41_code 65 = .ok (.sipush (-10102), 3) := by decide +kernel
theorem d_mo_tide_68 : decode prog_7_method_41_code 68 = .ok (.ireturn, 1) := by decide +kernel
theorem d_mo_gateNow_0 : decode prog_7_method_42_code 0 = .ok (.iconst (-1), 1) := by decide +kernel
theorem d_mo_gateNow_1 : decode prog_7_method_42_code 1 = .ok (.istore 6, 2) := by decide +kernel
theorem d_mo_gateNow_3 : decode prog_7_method_42_code 3 = .ok (.sipush (-10001), 3) := by decide +kernel
theorem d_mo_gateNow_6 : decode prog_7_method_42_code 6 = .ok (.istore 7, 2) := by decide +kernel
theorem d_mo_gateNow_8 : decode prog_7_method_42_code 8 = .ok (.sipush (-10001), 3) := by decide +kernel
theorem d_mo_gateNow_11 : decode prog_7_method_42_code 11 = .ok (.istore 8, 2) := by decide +kernel
theorem d_mo_gateNow_13 : decode prog_7_method_42_code 13 = .ok (.iconst 0, 1) := by decide +kernel
theorem d_mo_gateNow_14 : decode prog_7_method_42_code 14 = .ok (.istore 9, 2) := by decide +kernel
theorem d_mo_gateNow_16 : decode prog_7_method_42_code 16 = .ok (.sipush 144, 3) := by decide +kernel
theorem d_mo_gateNow_19 : decode prog_7_method_42_code 19 = .ok (.iload_n 2, 1) := by decide +kernel
theorem d_mo_gateNow_20 : decode prog_7_method_42_code 20 = .ok (.imul, 1) := by decide +kernel
theorem d_mo_gateNow_21 : decode prog_7_method_42_code 21 = .ok (.istore 10, 2) := by decide +kernel
theorem d_mo_gateNow_23 : decode prog_7_method_42_code 23 = .ok (.iload 10, 2) := by decide +kernel
theorem d_mo_gateNow_25 : decode prog_7_method_42_code 25 = .ok (.sipush 144, 3) := by decide +kernel
theorem d_mo_gateNow_28 : decode prog_7_method_42_code 28 = .ok (.iload_n 2, 1) := by decide +kernel
