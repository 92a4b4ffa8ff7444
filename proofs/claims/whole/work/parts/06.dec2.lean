theorem d_tb_gate_52 : decode prog_1_method_13_code 52 = .ok (.sipush 144, 3) := by decide +kernel
theorem d_tb_gate_55 : decode prog_1_method_13_code 55 = .ok (.imul, 1) := by decide +kernel
theorem d_tb_gate_56 : decode prog_1_method_13_code 56 = .ok (.sipush 144, 3) := by decide +kernel
theorem d_tb_gate_59 : decode prog_1_method_13_code 59 = .ok (.invokevirtual 125, 3) := by decide +kernel
theorem d_tb_gate_62 : decode prog_1_method_13_code 62 = .ok (.aload_n 0, 1) := by decide +kernel
theorem d_tb_gate_63 : decode prog_1_method_13_code 63 = .ok (.iload_n 3, 1) := by decide +kernel
theorem d_tb_gate_64 : decode prog_1_method_13_code 64 = .ok (.iload 4, 2) := by decide +kernel
theorem d_tb_gate_66 : decode prog_1_method_13_code 66 = .ok (.invokevirtual 135, 3) := by decide +kernel
theorem d_tb_gate_69 : decode prog_1_method_13_code 69 = .ok (.istore 6, 2) := by decide +kernel
theorem d_tb_gate_71 : decode prog_1_method_13_code 71 = .ok (.iload 6, 2) := by decide +kernel
theorem d_tb_gate_73 : decode prog_1_method_13_code 73 = .ok (.sipush (-10001), 3) := by decide +kernel
theorem d_tb_gate_76 : decode prog_1_method_13_code 76 = .ok (.if_icmp .ne 7, 3) := by decide +kernel
theorem d_tb_gate_79 : decode prog_1_method_13_code 79 = .ok (.sipush (-10101), 3) := by decide +kernel
theorem d_tb_gate_82 : decode prog_1_method_13_code 82 = .ok (.ireturn, 1) := by decide +kernel
theorem d_tb_gate_83 : decode prog_1_method_13_code 83 = .ok (.iload 5, 2) := by decide +kernel
theorem d_tb_gate_85 : decode prog_1_method_13_code 85 = .ok (.lookupswitch 50 #[(0, 27), (1, 36)], 27) := by decide +kernel
theorem d_tb_gate_112 : decode prog_1_method_13_code 112 = .ok (.iload_n 2, 1) := by decide +kernel
theorem d_tb_gate_113 : decode prog_1_method_13_code 113 = .ok (.sipush 144, 3) := by decide +kernel
theorem d_tb_gate_116 : decode prog_1_method_13_code 116 = .ok (.imul, 1) := by decide +kernel
theorem d_tb_gate_117 : decode prog_1_method_13_code 117 = .ok (.iload 6, 2) := by decide +kernel
theorem d_tb_gate_119 : decode prog_1_method_13_code 119 = .ok (.iadd, 1) := by decide +kernel
theorem d_tb_gate_120 : decode prog_1_method_13_code 120 = .ok (.ireturn, 1) := by decide +kernel
theorem d_tb_gate_121 : decode prog_1_method_13_code 121 = .ok (.iload_n 2, 1) := by decide +kernel
theorem d_tb_gate_122 : decode prog_1_method_13_code 122 = .ok (.sipush 144, 3) := by decide +kernel
theorem d_tb_gate_125 : decode prog_1_method_13_code 125 = .ok (.imul, 1) := by decide +kernel
theorem d_tb_gate_126 : decode prog_1_method_13_code 126 = .ok (.aload_n 0, 1) := by decide +kernel
theorem d_tb_gate_127 : decode prog_1_method_13_code 127 = .ok (.iload_n 3, 1) := by decide +kernel
theorem d_tb_gate_128 : decode prog_1_method_13_code 128 = .ok (.iload 6, 2) := by decide +kernel
theorem d_tb_gate_130 : decode prog_1_method_13_code 130 = .ok (.invokevirtual 138, 3) := by decide +kernel
theorem d_tb_gate_133 : decode prog_1_method_13_code 133 = .ok (.iadd, 1) := by decide +kernel
theorem d_tb_gate_134 : decode prog_1_method_13_code 134 = .ok (.ireturn, 1) := by decide +kernel
theorem d_tb_gate_135 : decode prog_1_method_13_code 135 = .ok (.sipush (-10102), 3) := by decide +kernel
theorem d_tb_gate_138 : decode prog_1_method_13_code 138 = .ok (.ireturn, 1) := by decide +kernel
theorem d_tb_dry_0 : decode prog_1_method_14_code 0 = .ok (.aload_n 0, 1) := by decide +kernel
theorem d_tb_dry_1 : decode prog_1_method_14_code 1 = .ok (.getfield 19, 3) := by decide +kernel
theorem d_tb_dry_4 : decode prog_1_method_14_code 4 = .ok (.iload_n 1, 1) := by decide +kernel
theorem d_tb_dry_5 : decode prog_1_method_14_code 5 = .ok (.invokevirtual 64, 3) := by decide +kernel
theorem d_tb_dry_8 : decode prog_1_method_14_code 8 = .ok (.ifCond .ne 7, 3) := by decide +kernel
theorem d_tb_dry_11 : decode prog_1_method_14_code 11 = .ok (.sipush (-10101), 3) := by decide +kernel
theorem d_tb_dry_14 : decode prog_1_method_14_code 14 = .ok (.ireturn, 1) := by decide +kernel
theorem d_tb_dry_15 : decode prog_1_method_14_code 15 = .ok (.iload_n 2, 1) := by decide +kernel
theorem d_tb_dry_16 : decode prog_1_method_14_code 16 = .ok (.iconst 0, 1) := by decide +kernel
theorem d_tb_dry_17 : decode prog_1_method_14_code 17 = .ok (.bipush 9, 2) := by decide +kernel
theorem d_tb_dry_19 : decode prog_1_method_14_code 19 = .ok (.invokestatic 33, 3) := by decide +kernel
theorem d_tb_dry_22 : decode prog_1_method_14_code 22 = .ok (.ifCond .eq 16, 3) := by decide +kernel
theorem d_tb_dry_25 : decode prog_1_method_14_code 25 = .ok (.iload_n 3, 1) := by decide +kernel
theorem d_tb_dry_26 : decode prog_1_method_14_code 26 = .ok (.sipush (-2000), 3) := by decide +kernel
theorem d_tb_dry_29 : decode prog_1_method_14_code 29 = .ok (.sipush 4000, 3) := by decide +kernel
theorem d_tb_dry_32 : decode prog_1_method_14_code 32 = .ok (.invokestatic 33, 3) := by decide +kernel
theorem d_tb_dry_35 : decode prog_1_method_14_code 35 = .ok (.ifCond .ne 7, 3) := by decide +kernel
theorem d_tb_dry_38 : decode prog_1_method_14_code 38 = .ok (.sipush (-10102), 3) := by decide +kernel
theorem d_tb_dry_41 : decode prog_1_method_14_code 41 = .ok (.ireturn, 1) := by decide +kernel
theorem d_tb_dry_42 : decode prog_1_method_14_code 42 = .ok (.aload_n 0, 1) := by decide +kernel
theorem d_tb_dry_43 : decode prog_1_method_14_code 43 = .ok (.getfield 19, 3) := by decide +kernel
theorem d_tb_dry_46 : decode prog_1_method_14_code 46 = .ok (.aload_n 0, 1) := by decide +kernel
theorem d_tb_dry_47 : decode prog_1_method_14_code 47 = .ok (.getfield 26, 3) := by decide +kernel
theorem d_tb_dry_50 : decode prog_1_method_14_code 50 = .ok (.iload_n 1, 1) := by decide +kernel
theorem d_tb_dry_51 : decode prog_1_method_14_code 51 = .ok (.iload_n 2, 1) := by decide +kernel
theorem d_tb_dry_52 : decode prog_1_method_14_code 52 = .ok (.sipush 144, 3) := by decide +kernel
theorem d_tb_dry_55 : decode prog_1_method_14_code 55 = .ok (.imul, 1) := by decide +kernel
theorem d_tb_dry_56 : decode prog_1_method_14_code 56 = .ok (.sipush 144, 3) := by decide +kernel
theorem d_tb_dry_59 : decode prog_1_method_14_code 59 = .ok (.invokevirtual 125, 3) := by decide +kernel
theorem d_tb_dry_62 : decode prog_1_method_14_code 62 = .ok (.iconst 0, 1) := by decide +kernel
theorem d_tb_dry_63 : decode prog_1_method_14_code 63 = .ok (.istore 4, 2) := by decide +kernel
theorem d_tb_dry_65 : decode prog_1_method_14_code 65 = .ok (.iconst 0, 1) := by decide +kernel
theorem d_tb_dry_66 : decode prog_1_method_14_code 66 = .ok (.istore 5, 2) := by decide +kernel
theorem d_tb_dry_68 : decode prog_1_method_14_code 68 = .ok (.iload 5, 2) := by decide +kernel
theorem d_tb_dry_70 : decode prog_1_method_14_code 70 = .ok (.sipush 144, 3) := by decide +kernel
theorem d_tb_dry_73 : decode prog_1_method_14_code 73 = .ok (.if_icmp .ge 23, 3) := by decide +kernel
theorem d_tb_dry_76 : decode prog_1_method_14_code 76 = .ok (.aload_n 0, 1) := by decide +kernel
theorem d_tb_dry_77 : decode prog_1_method_14_code 77 = .ok (.getfield 26, 3) := by decide +kernel
theorem d_tb_dry_80 : decode prog_1_method_14_code 80 = .ok (.iload 5, 2) := by decide +kernel
theorem d_tb_dry_82 : decode prog_1_method_14_code 82 = .ok (.iaload, 1) := by decide +kernel
theorem d_tb_dry_83 : decode prog_1_method_14_code 83 = .ok (.iload_n 3, 1) := by decide +kernel
theorem d_tb_dry_84 : decode prog_1_method_14_code 84 = .ok (.if_icmp .ge 6, 3) := by decide +kernel
theorem d_tb_dry_87 : decode prog_1_method_14_code 87 = .ok (.iinc 4 1, 3) := by decide +kernel
theorem d_tb_dry_90 : decode prog_1_method_14_code 90 = .ok (.iinc 5 1, 3) := by decide +kernel
theorem d_tb_dry_93 : decode prog_1_method_14_code 93 = .ok (.goto (-25), 3) := by decide +kernel
theorem d_tb_dry_96 : decode prog_1_method_14_code 96 = .ok (.iload 4, 2) := by decide +kernel
theorem d_tb_dry_98 : decode prog_1_method_14_code 98 = .ok (.ireturn, 1) := by decide +kernel
theorem d_tb_stream_0 : decode prog_1_method_15_code 0 = .ok (.aload_n 0, 1) := by decide +kernel
theorem d_tb_stream_1 : decode prog_1_method_15_code 1 = .ok (.getfield 19, 3) := by decide +kernel
theorem d_tb_stream_4 : decode prog_1_method_15_code 4 = .ok (.iload_n 1, 1) := by decide +kernel
theorem d_tb_stream_5 : decode prog_1_method_15_code 5 = .ok (.invokevirtual 64, 3) := by decide +kernel
theorem d_tb_stream_8 : decode prog_1_method_15_code 8 = .ok (.ifCond .eq 14, 3) := by decide +kernel
theorem d_tb_stream_11 : decode prog_1_method_15_code 11 = .ok (.aload_n 0, 1) := by decide +kernel
theorem d_tb_stream_12 : decode prog_1_method_15_code 12 = .ok (.getfield 19, 3) := by decide +kernel
theorem d_tb_stream_15 : decode prog_1_method_15_code 15 = .ok (.iload_n 2, 1) := by decide +kernel
theorem d_tb_stream_16 : decode prog_1_method_15_code 16 = .ok (.invokevirtual 64, 3) := by decide +kernel
theorem d_tb_stream_19 : decode prog_1_method_15_code 19 = .ok (.ifCond .ne 7, 3) := by decide +kernel
theorem d_tb_stream_22 : decode prog_1_method_15_code 22 = .ok (.sipush (-10101), 3) := by decide +kernel
theorem d_tb_stream_25 : decode prog_1_method_15_code 25 = .ok (.ireturn, 1) := by decide +kernel
theorem d_tb_stream_26 : decode prog_1_method_15_code 26 = .ok (.iload_n 3, 1) := by decide +kernel
theorem d_tb_stream_27 : decode prog_1_method_15_code 27 = .ok (.iconst 0, 1) := by decide +kernel
theorem d_tb_stream_28 : decode prog_1_method_15_code 28 = .ok (.sipush 1439, 3) := by decide +kernel
theorem d_tb_stream_31 : decode prog_1_method_15_code 31 = .ok (.invokestatic 33, 3) := by decide +kernel
theorem d_tb_stream_34 : decode prog_1_method_15_code 34 = .ok (.ifCond .ne 7, 3) := by decide +kernel
theorem d_tb_stream_37 : decode prog_1_method_15_code 37 = .ok (.sipush (-10102), 3) := by decide +kernel
theorem d_tb_stream_40 : decode prog_1_method_15_code 40 = .ok (.ireturn, 1) := by decide +kernel
theorem d_tb_stream_41 : decode prog_1_method_15_code 41 = .ok (.aload_n 0, 1) := by decide +kernel
theorem d_tb_stream_42 : decode prog_1_method_15_code 42 = .ok (.getfield 19, 3) := by decide +kernel
theorem d_tb_stream_45 : decode prog_1_method_15_code 45 = .ok (.iload_n 1, 1) := by decide +kernel
theorem d_tb_stream_46 : decode prog_1_method_15_code 46 = .ok (.iload_n 3, 1) := by decide +kernel
theorem d_tb_stream_47 : decode prog_1_method_15_code 47 = .ok (.invokevirtual 121, 3) := by decide +kernel
theorem d_tb_stream_50 : decode prog_1_method_15_code 50 = .ok (.aload_n 0, 1) := by decide +kernel
theorem d_tb_stream_51 : decode prog_1_method_15_code 51 = .ok (.getfield 19, 3) := by decide +kernel
theorem d_tb_stream_54 : decode prog_1_method_15_code 54 = .ok (.iload_n 2, 1) := by decide +kernel
theorem d_tb_stream_55 : decode prog_1_method_15_code 55 = .ok (.iload_n 3, 1) := by decide +kernel
theorem d_tb_stream_56 : decode prog_1_method_15_code 56 = .ok (.invokevirtual 121, 3) := by decide +kernel
theorem d_tb_stream_59 : decode prog_1_method_15_code 59 = .ok (.isub, 1) := by decide +kernel
theorem d_tb_stream_60 : decode prog_1_method_15_code 60 = .ok (.ireturn, 1) := by decide +kernel
theorem d_tb_slack_0 : decode prog_1_method_16_code 0 = .ok (.aload_n 0, 1) := by decide +kernel
theorem d_tb_slack_1 : decode prog_1_method_16_code 1 = .ok (.getfield 19, 3) := by decide +kernel
theorem d_tb_slack_4 : decode prog_1_method_16_code 4 = .ok (.iload_n 1, 1) := by decide +kernel
theorem d_tb_slack_5 : decode prog_1_method_16_code 5 = .ok (.invokevirtual 64, 3) := by decide +kernel
theorem d_tb_slack_8 : decode prog_1_method_16_code 8 = .ok (.ifCond .eq 14, 3) := by decide +kernel
theorem d_tb_slack_11 : decode prog_1_method_16_code 11 = .ok (.aload_n 0, 1) := by decide +kernel
theorem d_tb_slack_12 : decode prog_1_method_16_code 12 = .ok (.getfield 19, 3) := by decide +kernel
theorem d_tb_slack_15 : decode prog_1_method_16_code 15 = .ok (.iload_n 2, 1) := by decide +kernel
theorem d_tb_slack_16 : decode prog_1_method_16_code 16 = .ok (.invokevirtual 64, 3) := by decide +kernel
theorem d_tb_slack_19 : decode prog_1_method_16_code 19 = .ok (.ifCond .ne 7, 3) := by decide +kernel
theorem d_tb_slack_22 : decode prog_1_method_16_code 22 = .ok (.sipush (-10101), 3) := by decide +kernel
theorem d_tb_slack_25 : decode prog_1_method_16_code 25 = .ok (.ireturn, 1) := by decide +kernel
theorem d_tb_slack_26 : decode prog_1_method_16_code 26 = .ok (.iload_n 3, 1) := by decide +kernel
theorem d_tb_slack_27 : decode prog_1_method_16_code 27 = .ok (.iconst 0, 1) := by decide +kernel
theorem d_tb_slack_28 : decode prog_1_method_16_code 28 = .ok (.sipush 1439, 3) := by decide +kernel
theorem d_tb_slack_31 : decode prog_1_method_16_code 31 = .ok (.invokestatic 33, 3) := by decide +kernel
theorem d_tb_slack_34 : decode prog_1_method_16_code 34 = .ok (.ifCond .ne 7, 3) := by decide +kernel
theorem d_tb_slack_37 : decode prog_1_method_16_code 37 = .ok (.sipush (-10102), 3) := by decide +kernel
theorem d_tb_slack_40 : decode prog_1_method_16_code 40 = .ok (.ireturn, 1) := by decide +kernel
theorem d_tb_slack_41 : decode prog_1_method_16_code 41 = .ok (.iload_n 3, 1) := by decide +kernel
theorem d_tb_slack_42 : decode prog_1_method_16_code 42 = .ok (.iconst 1, 1) := by decide +kernel
theorem d_tb_slack_43 : decode prog_1_method_16_code 43 = .ok (.isub, 1) := by decide +kernel
theorem d_tb_slack_44 : decode prog_1_method_16_code 44 = .ok (.istore 4, 2) := by decide +kernel
theorem d_tb_slack_46 : decode prog_1_method_16_code 46 = .ok (.aload_n 0, 1) := by decide +kernel
theorem d_tb_slack_47 : decode prog_1_method_16_code 47 = .ok (.getfield 19, 3) := by decide +kernel
theorem d_tb_slack_50 : decode prog_1_method_16_code 50 = .ok (.aload_n 0, 1) := by decide +kernel
theorem d_tb_slack_51 : decode prog_1_method_16_code 51 = .ok (.getfield 26, 3) := by decide +kernel
theorem d_tb_slack_54 : decode prog_1_method_16_code 54 = .ok (.iload_n 1, 1) := by decide +kernel
theorem d_tb_slack_55 : decode prog_1_method_16_code 55 = .ok (.iload 4, 2) := by decide +kernel
theorem d_tb_slack_57 : decode prog_1_method_16_code 57 = .ok (.sipush 145, 3) := by decide +kernel
theorem d_tb_slack_60 : decode prog_1_method_16_code 60 = .ok (.invokevirtual 125, 3) := by decide +kernel
theorem d_tb_slack_63 : decode prog_1_method_16_code 63 = .ok (.aload_n 0, 1) := by decide +kernel
theorem d_tb_slack_64 : decode prog_1_method_16_code 64 = .ok (.getfield 19, 3) := by decide +kernel
theorem d_tb_slack_67 : decode prog_1_method_16_code 67 = .ok (.aload_n 0, 1) := by decide +kernel
theorem d_tb_slack_68 : decode prog_1_method_16_code 68 = .ok (.getfield 30, 3) := by decide +kernel
theorem d_tb_slack_71 : decode prog_1_method_16_code 71 = .ok (.iload_n 2, 1) := by decide +kernel
theorem d_tb_slack_72 : decode prog_1_method_16_code 72 = .ok (.iload 4, 2) := by decide +kernel
theorem d_tb_slack_74 : decode prog_1_method_16_code 74 = .ok (.sipush 145, 3) := by decide +kernel
theorem d_tb_slack_77 : decode prog_1_method_16_code 77 = .ok (.invokevirtual 125, 3) := by decide +kernel
theorem d_tb_slack_80 : decode prog_1_method_16_code 80 = .ok (.iconst 1, 1) := by decide +kernel
theorem d_tb_slack_81 : decode prog_1_method_16_code 81 = .ok (.istore 5, 2) := by decide +kernel
theorem d_tb_slack_83 : decode prog_1_method_16_code 83 = .ok (.iload 5, 2) := by decide +kernel
theorem d_tb_slack_85 : decode prog_1_method_16_code 85 = .ok (.sipush 144, 3) := by decide +kernel
theorem d_tb_slack_88 : decode prog_1_method_16_code 88 = .ok (.if_icmp .gt 78, 3) := by decide +kernel
theorem d_tb_slack_91 : decode prog_1_method_16_code 91 = .ok (.aload_n 0, 1) := by decide +kernel
theorem d_tb_slack_92 : decode prog_1_method_16_code 92 = .ok (.getfield 26, 3) := by decide +kernel
theorem d_tb_slack_95 : decode prog_1_method_16_code 95 = .ok (.iload 5, 2) := by decide +kernel
theorem d_tb_slack_97 : decode prog_1_method_16_code 97 = .ok (.iconst 1, 1) := by decide +kernel
theorem d_tb_slack_98 : decode prog_1_method_16_code 98 = .ok (.isub, 1) := by decide +kernel
theorem d_tb_slack_99 : decode prog_1_method_16_code 99 = .ok (.iaload, 1) := by decide +kernel
theorem d_tb_slack_100 : decode prog_1_method_16_code 100 = .ok (.aload_n 0, 1) := by decide +kernel
theorem d_tb_slack_101 : decode prog_1_method_16_code 101 = .ok (.getfield 30, 3) := by decide +kernel
theorem d_tb_slack_104 : decode prog_1_method_16_code 104 = .ok (.iload 5, 2) := by decide +kernel
theorem d_tb_slack_106 : decode prog_1_method_16_code 106 = .ok (.iconst 1, 1) := by decide +kernel
theorem d_tb_slack_107 : decode prog_1_method_16_code 107 = .ok (.isub, 1) := by decide +kernel
theorem d_tb_slack_108 : decode prog_1_method_16_code 108 = .ok (.iaload, 1) := by decide +kernel
theorem d_tb_slack_109 : decode prog_1_method_16_code 109 = .ok (.isub, 1) := by decide +kernel
theorem d_tb_slack_110 : decode prog_1_method_16_code 110 = .ok (.istore 6, 2) := by decide +kernel
theorem d_tb_slack_112 : decode prog_1_method_16_code 112 = .ok (.aload_n 0, 1) := by decide +kernel
theorem d_tb_slack_113 : decode prog_1_method_16_code 113 = .ok (.getfield 26, 3) := by decide +kernel
theorem d_tb_slack_116 : decode prog_1_method_16_code 116 = .ok (.iload 5, 2) := by decide +kernel
theorem d_tb_slack_118 : decode prog_1_method_16_code 118 = .ok (.iaload, 1) := by decide +kernel
theorem d_tb_slack_119 : decode prog_1_method_16_code 119 = .ok (.aload_n 0, 1) := by decide +kernel
theorem d_tb_slack_120 : decode prog_1_method_16_code 120 = .ok (.getfield 30, 3) := by decide +kernel
theorem d_tb_slack_123 : decode prog_1_method_16_code 123 = .ok (.iload 5, 2) := by decide +kernel
theorem d_tb_slack_125 : decode prog_1_method_16_code 125 = .ok (.iaload, 1) := by decide +kernel
theorem d_tb_slack_126 : decode prog_1_method_16_code 126 = .ok (.isub, 1) := by decide +kernel
theorem d_tb_slack_127 : decode prog_1_method_16_code 127 = .ok (.istore 7, 2) := by decide +kernel
theorem d_tb_slack_129 : decode prog_1_method_16_code 129 = .ok (.iload 7, 2) := by decide +kernel
theorem d_tb_slack_131 : decode prog_1_method_16_code 131 = .ok (.ifCond .eq 23, 3) := by decide +kernel
theorem d_tb_slack_134 : decode prog_1_method_16_code 134 = .ok (.iload 7, 2) := by decide +kernel
theorem d_tb_slack_136 : decode prog_1_method_16_code 136 = .ok (.ifCond .le 8, 3) := by decide +kernel
theorem d_tb_slack_139 : decode prog_1_method_16_code 139 = .ok (.iload 6, 2) := by decide +kernel
theorem d_tb_slack_141 : decode prog_1_method_16_code 141 = .ok (.ifCond .lt 13, 3) := by decide +kernel
theorem d_tb_slack_144 : decode prog_1_method_16_code 144 = .ok (.iload 7, 2) := by decide +kernel
theorem d_tb_slack_146 : decode prog_1_method_16_code 146 = .ok (.ifCond .ge 14, 3) := by decide +kernel
theorem d_tb_slack_149 : decode prog_1_method_16_code 149 = .ok (.iload 6, 2) := by decide +kernel
theorem d_tb_slack_151 : decode prog_1_method_16_code 151 = .ok (.ifCond .le 9, 3) := by decide +kernel
theorem d_tb_slack_154 : decode prog_1_method_16_code 154 = .ok (.iload 4, 2) := by decide +kernel
theorem d_tb_slack_156 : decode prog_1_method_16_code 156 = .ok (.iload 5, 2) := by decide +kernel
theorem d_tb_slack_158 : decode prog_1_method_16_code 158 = .ok (.iadd, 1) := by decide +kernel
theorem d_tb_slack_159 : decode prog_1_method_16_code 159 = .ok (.ireturn, 1) := by decide +kernel
theorem d_tb_slack_160 : decode prog_1_method_16_code 160 = .ok (.iinc 5 1, 3) := by decide +kernel
theorem d_tb_slack_163 : decode prog_1_method_16_code 163 = .ok (.goto (-80), 3) := by decide +kernel
theorem d_tb_slack_166 : decode prog_1_method_16_code 166 = .ok (.sipush (-10001), 3) := by decide +kernel
theorem d_tb_slack_169 : decode prog_1_method_16_code 169 = .ok (.ireturn, 1) := by decide +kernel
theorem d_tb_trip_0 : decode prog_1_method_17_code 0 = .ok (.aload_n 0, 1) := by decide +kernel
theorem d_tb_trip_1 : decode prog_1_method_17_code 1 = .ok (.getfield 19, 3) := by decide +kernel
theorem d_tb_trip_4 : decode prog_1_method_17_code 4 = .ok (.iload_n 1, 1) := by decide +kernel
theorem d_tb_trip_5 : decode prog_1_method_17_code 5 = .ok (.invokevirtual 64, 3) := by decide +kernel
theorem d_tb_trip_8 : decode prog_1_method_17_code 8 = .ok (.ifCond .eq 14, 3) := by decide +kernel
theorem d_tb_trip_11 : decode prog_1_method_17_code 11 = .ok (.aload_n 0, 1) := by decide +kernel
theorem d_tb_trip_12 : decode prog_1_method_17_code 12 = .ok (.getfield 19, 3) := by decide +kernel
theorem d_tb_trip_15 : decode prog_1_method_17_code 15 = .ok (.iload_n 2, 1) := by decide +kernel
theorem d_tb_trip_16 : decode prog_1_method_17_code 16 = .ok (.invokevirtual 64, 3) := by decide +kernel
theorem d_tb_trip_19 : decode prog_1_method_17_code 19 = .ok (.ifCond .ne 7, 3) := by decide +kernel
theorem d_tb_trip_22 : decode prog_1_method_17_code 22 = .ok (.sipush (-10101), 3) := by decide +kernel
theorem d_tb_trip_25 : decode prog_1_method_17_code 25 = .ok (.ireturn, 1) := by decide +kernel
theorem d_tb_trip_26 : decode prog_1_method_17_code 26 = .ok (.iload_n 3, 1) := by decide +kernel
theorem d_tb_trip_27 : decode prog_1_method_17_code 27 = .ok (.iconst 0, 1) := by decide +kernel
theorem d_tb_trip_28 : decode prog_1_method_17_code 28 = .ok (.sipush 1439, 3) := by decide +kernel
theorem d_tb_trip_31 : decode prog_1_method_17_code 31 = .ok (.invokestatic 33, 3) := by decide +kernel
theorem d_tb_trip_34 : decode prog_1_method_17_code 34 = .ok (.ifCond .eq 14, 3) := by decide +kernel
theorem d_tb_trip_37 : decode prog_1_method_17_code 37 = .ok (.iload 4, 2) := by decide +kernel
theorem d_tb_trip_39 : decode prog_1_method_17_code 39 = .ok (.iconst 1, 1) := by decide +kernel
theorem d_tb_trip_40 : decode prog_1_method_17_code 40 = .ok (.bipush 30, 2) := by decide +kernel
theorem d_tb_trip_42 : decode prog_1_method_17_code 42 = .ok (.invokestatic 33, 3) := by decide +kernel
theorem d_tb_trip_45 : decode prog_1_method_17_code 45 = .ok (.ifCond .ne 7, 3) := by decide +kernel
theorem d_tb_trip_48 : decode prog_1_method_17_code 48 = .ok (.sipush (-10102), 3) := by decide +kernel
theorem d_tb_trip_51 : decode prog_1_method_17_code 51 = .ok (.ireturn, 1) := by decide +kernel
theorem d_tb_trip_52 : decode prog_1_method_17_code 52 = .ok (.aload_n 0, 1) := by decide +kernel
theorem d_tb_trip_53 : decode prog_1_method_17_code 53 = .ok (.getfield 19, 3) := by decide +kernel
theorem d_tb_trip_56 : decode prog_1_method_17_code 56 = .ok (.aload_n 0, 1) := by decide +kernel
theorem d_tb_trip_57 : decode prog_1_method_17_code 57 = .ok (.getfield 26, 3) := by decide +kernel
theorem d_tb_trip_60 : decode prog_1_method_17_code 60 = .ok (.iload_n 1, 1) := by decide +kernel
theorem d_tb_trip_61 : decode prog_1_method_17_code 61 = .ok (.iload_n 3, 1) := by decide +kernel
theorem d_tb_trip_62 : decode prog_1_method_17_code 62 = .ok (.sipush 200, 3) := by decide +kernel
theorem d_tb_trip_65 : decode prog_1_method_17_code 65 = .ok (.invokevirtual 125, 3) := by decide +kernel
theorem d_tb_trip_68 : decode prog_1_method_17_code 68 = .ok (.aload_n 0, 1) := by decide +kernel
theorem d_tb_trip_69 : decode prog_1_method_17_code 69 = .ok (.getfield 19, 3) := by decide +kernel
theorem d_tb_trip_72 : decode prog_1_method_17_code 72 = .ok (.aload_n 0, 1) := by decide +kernel
theorem d_tb_trip_73 : decode prog_1_method_17_code 73 = .ok (.getfield 30, 3) := by decide +kernel
theorem d_tb_trip_76 : decode prog_1_method_17_code 76 = .ok (.iload_n 2, 1) := by decide +kernel
theorem d_tb_trip_77 : decode prog_1_method_17_code 77 = .ok (.iload_n 3, 1) := by decide +kernel
theorem d_tb_trip_78 : decode prog_1_method_17_code 78 = .ok (.sipush 200, 3) := by decide +kernel
theorem d_tb_trip_81 : decode prog_1_method_17_code 81 = .ok (.invokevirtual 125, 3) := by decide +kernel
theorem d_tb_trip_84 : decode prog_1_method_17_code 84 = .ok (.aload_n 0, 1) := by decide +kernel
theorem d_tb_trip_85 : decode prog_1_method_17_code 85 = .ok (.iconst 0, 1) := by decide +kernel
theorem d_tb_trip_86 : decode prog_1_method_17_code 86 = .ok (.iload 4, 2) := by decide +kernel
theorem d_tb_trip_88 : decode prog_1_method_17_code 88 = .ok (.invokevirtual 141, 3) := by decide +kernel
theorem d_tb_trip_91 : decode prog_1_method_17_code 91 = .ok (.ireturn, 1) := by decide +kernel
theorem d_tb_leave_0 : decode prog_1_method_18_code 0 = .ok (.aload_n 0, 1) := by decide +kernel
theorem d_tb_leave_1 : decode prog_1_method_18_code 1 = .ok (.getfield 19, 3) := by decide +kernel
theorem d_tb_leave_4 : decode prog_1_method_18_code 4 = .ok (.iload_n 1, 1) := by decide +kernel
theorem d_tb_leave_5 : decode prog_1_method_18_code 5 = .ok (.invokevirtual 64, 3) := by decide +kernel
theorem d_tb_leave_8 : decode prog_1_method_18_code 8 = .ok (.ifCond .eq 14, 3) := by decide +kernel
theorem d_tb_leave_11 : decode prog_1_method_18_code 11 = .ok (.aload_n 0, 1) := by decide +kernel
theorem d_tb_leave_12 : decode prog_1_method_18_code 12 = .ok (.getfield 19, 3) := by decide +kernel
theorem d_tb_leave_15 : decode prog_1_method_18_code 15 = .ok (.iload_n 2, 1) := by decide +kernel
theorem d_tb_leave_16 : decode prog_1_method_18_code 16 = .ok (.invokevirtual 64, 3) := by decide +kernel
theorem d_tb_leave_19 : decode prog_1_method_18_code 19 = .ok (.ifCond .ne 7, 3) := by decide +kernel
theorem d_tb_leave_22 : decode prog_1_method_18_code 22 = .ok (.sipush (-10101), 3) := by decide +kernel
theorem d_tb_leave_25 : decode prog_1_method_18_code 25 = .ok (.ireturn, 1) := by decide +kernel
theorem d_tb_leave_26 : decode prog_1_method_18_code 26 = .ok (.iload_n 3, 1) := by decide +kernel
theorem d_tb_leave_27 : decode prog_1_method_18_code 27 = .ok (.iconst 0, 1) := by decide +kernel
theorem d_tb_leave_28 : decode prog_1_method_18_code 28 = .ok (.bipush 9, 2) := by decide +kernel
theorem d_tb_leave_30 : decode prog_1_method_18_code 30 = .ok (.invokestatic 33, 3) := by decide +kernel
theorem d_tb_leave_33 : decode prog_1_method_18_code 33 = .ok (.ifCond .eq 28, 3) := by decide +kernel
theorem d_tb_leave_36 : decode prog_1_method_18_code 36 = .ok (.iload 4, 2) := by decide +kernel
theorem d_tb_leave_38 : decode prog_1_method_18_code 38 = .ok (.iconst 1, 1) := by decide +kernel
theorem d_tb_leave_39 : decode prog_1_method_18_code 39 = .ok (.bipush 30, 2) := by decide +kernel
theorem d_tb_leave_41 : decode prog_1_method_18_code 41 = .ok (.invokestatic 33, 3) := by decide +kernel
theorem d_tb_leave_44 : decode prog_1_method_18_code 44 = .ok (.ifCond .eq 17, 3) := by decide +kernel
theorem d_tb_leave_47 : decode prog_1_method_18_code 47 = .ok (.iload 5, 2) := by decide +kernel
theorem d_tb_leave_49 : decode prog_1_method_18_code 49 = .ok (.sipush (-2000), 3) := by decide +kernel
theorem d_tb_leave_52 : decode prog_1_method_18_code 52 = .ok (.sipush 4000, 3) := by decide +kernel
theorem d_tb_leave_55 : decode prog_1_method_18_code 55 = .ok (.invokestatic 33, 3) := by decide +kernel
theorem d_tb_leave_58 : decode prog_1_method_18_code 58 = .ok (.ifCond .ne 7, 3) := by decide +kernel
theorem d_tb_leave_61 : decode prog_1_method_18_code 61 = .ok (.sipush (-10102), 3) := by decide +kernel
theorem d_tb_leave_64 : decode prog_1_method_18_code 64 = .ok (.ireturn, 1) := by decide +kernel
theorem d_tb_leave_65 : decode prog_1_method_18_code 65 = .ok (.aload_n 0, 1) := by decide +kernel
theorem d_tb_leave_66 : decode prog_1_method_18_code 66 = .ok (.getfield 19, 3) := by decide +kernel
theorem d_tb_leave_69 : decode prog_1_method_18_code 69 = .ok (.aload_n 0, 1) := by decide +kernel
theorem d_tb_leave_70 : decode prog_1_method_18_code 70 = .ok (.getfield 26, 3) := by decide +kernel
theorem d_tb_leave_73 : decode prog_1_method_18_code 73 = .ok (.iload_n 1, 1) := by decide +kernel
theorem d_tb_leave_74 : decode prog_1_method_18_code 74 = .ok (.iload_n 3, 1) := by decide +kernel
theorem d_tb_leave_75 : decode prog_1_method_18_code 75 = .ok (.sipush 144, 3) := by decide +kernel
theorem d_tb_leave_78 : decode prog_1_method_18_code 78 = .ok (.imul, 1) := by decide +kernel
theorem d_tb_leave_79 : decode prog_1_method_18_code 79 = .ok (.sipush 344, 3) := by decide +kernel
theorem d_tb_leave_82 : decode prog_1_method_18_code 82 = .ok (.invokevirtual 125, 3) := by decide +kernel
theorem d_tb_leave_85 : decode prog_1_method_18_code 85 = .ok (.aload_n 0, 1) := by decide +kernel
theorem d_tb_leave_86 : decode prog_1_method_18_code 86 = .ok (.getfield 19, 3) := by decide +kernel
theorem d_tb_leave_89 : decode prog_1_method_18_code 89 = .ok (.aload_n 0, 1) := by decide +kernel
theorem d_tb_leave_90 : decode prog_1_method_18_code 90 = .ok (.getfield 30, 3) := by decide +kernel
theorem d_tb_leave_93 : decode prog_1_method_18_code 93 = .ok (.iload_n 2, 1) := by decide +kernel
theorem d_tb_leave_94 : decode prog_1_method_18_code 94 = .ok (.iload_n 3, 1) := by decide +kernel
theorem d_tb_leave_95 : decode prog_1_method_18_code 95 = .ok (.sipush 144, 3) := by decide +kernel
theorem d_tb_leave_98 : decode prog_1_method_18_code 98 = .ok (.imul, 1) := by decide +kernel
theorem d_tb_leave_99 : decode prog_1_method_18_code 99 = .ok (.sipush 344, 3) := by decide +kernel
theorem d_tb_leave_102 : decode prog_1_method_18_code 102 = .ok (.invokevirtual 125, 3) := by decide +kernel
theorem d_tb_leave_105 : decode prog_1_method_18_code 105 = .ok (.iconst 0, 1) := by decide +kernel
theorem d_tb_leave_106 : decode prog_1_method_18_code 106 = .ok (.istore 6, 2) := by decide +kernel
theorem d_tb_leave_108 : decode prog_1_method_18_code 108 = .ok (.iload 6, 2) := by decide +kernel
theorem d_tb_leave_110 : decode prog_1_method_18_code 110 = .ok (.sipush 144, 3) := by decide +kernel
theorem d_tb_leave_113 : decode prog_1_method_18_code 113 = .ok (.if_icmp .ge 51, 3) := by decide +kernel
theorem d_tb_leave_116 : decode prog_1_method_18_code 116 = .ok (.aload_n 0, 1) := by decide +kernel
theorem d_tb_leave_117 : decode prog_1_method_18_code 117 = .ok (.iload 6, 2) := by decide +kernel
theorem d_tb_leave_119 : decode prog_1_method_18_code 119 = .ok (.iload 4, 2) := by decide +kernel
theorem d_tb_leave_121 : decode prog_1_method_18_code 121 = .ok (.invokevirtual 141, 3) := by decide +kernel
theorem d_tb_leave_124 : decode prog_1_method_18_code 124 = .ok (.istore 7, 2) := by decide +kernel
theorem d_tb_leave_126 : decode prog_1_method_18_code 126 = .ok (.iload 7, 2) := by decide +kernel
theorem d_tb_leave_128 : decode prog_1_method_18_code 128 = .ok (.sipush (-10001), 3) := by decide +kernel
theorem d_tb_leave_131 : decode prog_1_method_18_code 131 = .ok (.if_icmp .eq 27, 3) := by decide +kernel
theorem d_tb_leave_134 : decode prog_1_method_18_code 134 = .ok (.aload_n 0, 1) := by decide +kernel
theorem d_tb_leave_135 : decode prog_1_method_18_code 135 = .ok (.getfield 30, 3) := by decide +kernel
theorem d_tb_leave_138 : decode prog_1_method_18_code 138 = .ok (.iload 6, 2) := by decide +kernel
theorem d_tb_leave_140 : decode prog_1_method_18_code 140 = .ok (.iload 7, 2) := by decide +kernel
theorem d_tb_leave_142 : decode prog_1_method_18_code 142 = .ok (.iadd, 1) := by decide +kernel
theorem d_tb_leave_143 : decode prog_1_method_18_code 143 = .ok (.iaload, 1) := by decide +kernel
theorem d_tb_leave_144 : decode prog_1_method_18_code 144 = .ok (.iload 5, 2) := by decide +kernel
theorem d_tb_leave_146 : decode prog_1_method_18_code 146 = .ok (.if_icmp .lt 12, 3) := by decide +kernel
theorem d_tb_leave_149 : decode prog_1_method_18_code 149 = .ok (.iload_n 3, 1) := by decide +kernel
theorem d_tb_leave_150 : decode prog_1_method_18_code 150 = .ok (.sipush 144, 3) := by decide +kernel
theorem d_tb_leave_153 : decode prog_1_method_18_code 153 = .ok (.imul, 1) := by decide +kernel
theorem d_tb_leave_154 : decode prog_1_method_18_code 154 = .ok (.iload 6, 2) := by decide +kernel
theorem d_tb_leave_156 : decode prog_1_method_18_code 156 = .ok (.iadd, 1) := by decide +kernel
theorem d_tb_leave_157 : decode prog_1_method_18_code 157 = .ok (.ireturn, 1) := by decide +kernel
theorem d_tb_leave_158 : decode prog_1_method_18_code 158 = .ok (.iinc 6 1, 3) := by decide +kernel
theorem d_tb_leave_161 : decode prog_1_method_18_code 161 = .ok (.goto (-53), 3) := by decide +kernel
theorem d_tb_leave_164 : decode prog_1_method_18_code 164 = .ok (.sipush (-10001), 3) := by decide +kernel
theorem d_tb_leave_167 : decode prog_1_method_18_code 167 = .ok (.ireturn, 1) := by decide +kernel
theorem d_tb_mean_0 : decode prog_1_method_19_code 0 = .ok (.aload_n 0, 1) := by decide +kernel
theorem d_tb_mean_1 : decode prog_1_method_19_code 1 = .ok (.getfield 19, 3) := by decide +kernel
theorem d_tb_mean_4 : decode prog_1_method_19_code 4 = .ok (.iload_n 1, 1) := by decide +kernel
theorem d_tb_mean_5 : decode prog_1_method_19_code 5 = .ok (.invokevirtual 64, 3) := by decide +kernel
theorem d_tb_mean_8 : decode prog_1_method_19_code 8 = .ok (.ifCond .ne 7, 3) := by decide +kernel
theorem d_tb_mean_11 : decode prog_1_method_19_code 11 = .ok (.sipush (-10101), 3) := by decide +kernel
theorem d_tb_mean_14 : decode prog_1_method_19_code 14 = .ok (.ireturn, 1) := by decide +kernel
theorem d_tb_mean_15 : decode prog_1_method_19_code 15 = .ok (.iload_n 2, 1) := by decide +kernel
theorem d_tb_mean_16 : decode prog_1_method_19_code 16 = .ok (.iconst 0, 1) := by decide +kernel
theorem d_tb_mean_17 : decode prog_1_method_19_code 17 = .ok (.bipush 99, 2) := by decide +kernel
theorem d_tb_mean_19 : decode prog_1_method_19_code 19 = .ok (.invokestatic 33, 3) := by decide +kernel
theorem d_tb_mean_22 : decode prog_1_method_19_code 22 = .ok (.ifCond .ne 7, 3) := by decide +kernel
theorem d_tb_mean_25 : decode prog_1_method_19_code 25 = .ok (.sipush (-10102), 3) := by decide +kernel
theorem d_tb_mean_28 : decode prog_1_method_19_code 28 = .ok (.ireturn, 1) := by decide +kernel
theorem d_tb_mean_29 : decode prog_1_method_19_code 29 = .ok (.aload_n 0, 1) := by decide +kernel
theorem d_tb_mean_30 : decode prog_1_method_19_code 30 = .ok (.getfield 19, 3) := by decide +kernel
theorem d_tb_mean_33 : decode prog_1_method_19_code 33 = .ok (.getfield 68, 3) := by decide +kernel
theorem d_tb_mean_36 : decode prog_1_method_19_code 36 = .ok (.iload_n 1, 1) := by decide +kernel
theorem d_tb_mean_37 : decode prog_1_method_19_code 37 = .ok (.aaload, 1) := by decide +kernel
theorem d_tb_mean_38 : decode prog_1_method_19_code 38 = .ok (.getfield 77, 3) := by decide +kernel
theorem d_tb_mean_41 : decode prog_1_method_19_code 41 = .ok (.istore_n 3, 1) := by decide +kernel
theorem d_tb_mean_42 : decode prog_1_method_19_code 42 = .ok (.aload_n 0, 1) := by decide +kernel
theorem d_tb_mean_43 : decode prog_1_method_19_code 43 = .ok (.getfield 19, 3) := by decide +kernel
theorem d_tb_mean_46 : decode prog_1_method_19_code 46 = .ok (.getfield 68, 3) := by decide +kernel
theorem d_tb_mean_49 : decode prog_1_method_19_code 49 = .ok (.iload_n 1, 1) := by decide +kernel
theorem d_tb_mean_50 : decode prog_1_method_19_code 50 = .ok (.aaload, 1) := by decide +kernel
theorem d_tb_mean_51 : decode prog_1_method_19_code 51 = .ok (.iload_n 2, 1) := by decide +kernel
theorem d_tb_mean_52 : decode prog_1_method_19_code 52 = .ok (.putfield 77, 3) := by decide +kernel
theorem d_tb_mean_55 : decode prog_1_method_19_code 55 = .ok (.iload_n 3, 1) := by decide +kernel
theorem d_tb_mean_56 : decode prog_1_method_19_code 56 = .ok (.ireturn, 1) := by decide +kernel
theorem d_tb_mark_0 : decode prog_1_method_20_code 0 = .ok (.aload_n 0, 1) := by decide +kernel
theorem d_tb_mark_1 : decode prog_1_method_20_code 1 = .ok (.getfield 19, 3) := by decide +kernel
theorem d_tb_mark_4 : decode prog_1_method_20_code 4 = .ok (.iload_n 1, 1) := by decide +kernel
theorem d_tb_mark_5 : decode prog_1_method_20_code 5 = .ok (.invokevirtual 64, 3) := by decide +kernel
theorem d_tb_mark_8 : decode prog_1_method_20_code 8 = .ok (.ifCond .ne 7, 3) := by decide +kernel
theorem d_tb_mark_11 : decode prog_1_method_20_code 11 = .ok (.sipush (-10101), 3) := by decide +kernel
theorem d_tb_mark_14 : decode prog_1_method_20_code 14 = .ok (.ireturn, 1) := by decide +kernel
theorem d_tb_mark_15 : decode prog_1_method_20_code 15 = .ok (.iload_n 2, 1) := by decide +kernel
theorem d_tb_mark_16 : decode prog_1_method_20_code 16 = .ok (.iconst 0, 1) := by decide +kernel
theorem d_tb_mark_17 : decode prog_1_method_20_code 17 = .ok (.bipush 99, 2) := by decide +kernel
theorem d_tb_mark_19 : decode prog_1_method_20_code 19 = .ok (.invokestatic 33, 3) := by decide +kernel
theorem d_tb_mark_22 : decode prog_1_method_20_code 22 = .ok (.ifCond .ne 7, 3) := by decide +kernel
theorem d_tb_mark_25 : decode prog_1_method_20_code 25 = .ok (.sipush (-10102), 3) := by decide +kernel
theorem d_tb_mark_28 : decode prog_1_method_20_code 28 = .ok (.ireturn, 1) := by decide +kernel
theorem d_tb_mark_29 : decode prog_1_method_20_code 29 = .ok (.aload_n 0, 1) := by decide +kernel
theorem d_tb_mark_30 : decode prog_1_method_20_code 30 = .ok (.getfield 19, 3) := by decide +kernel
theorem d_tb_mark_33 : decode prog_1_method_20_code 33 = .ok (.getfield 68, 3) := by decide +kernel
theorem d_tb_mark_36 : decode prog_1_method_20_code 36 = .ok (.iload_n 1, 1) := by decide +kernel
theorem d_tb_mark_37 : decode prog_1_method_20_code 37 = .ok (.aaload, 1) := by decide +kernel
theorem d_tb_mark_38 : decode prog_1_method_20_code 38 = .ok (.getfield 80, 3) := by decide +kernel
theorem d_tb_mark_41 : decode prog_1_method_20_code 41 = .ok (.istore_n 3, 1) := by decide +kernel
theorem d_tb_mark_42 : decode prog_1_method_20_code 42 = .ok (.aload_n 0, 1) := by decide +kernel
theorem d_tb_mark_43 : decode prog_1_method_20_code 43 = .ok (.getfield 19, 3) := by decide +kernel
theorem d_tb_mark_46 : decode prog_1_method_20_code 46 = .ok (.getfield 68, 3) := by decide +kernel
theorem d_tb_mark_49 : decode prog_1_method_20_code 49 = .ok (.iload_n 1, 1) := by decide +kernel
theorem d_tb_mark_50 : decode prog_1_method_20_code 50 = .ok (.aaload, 1) := by decide +kernel
theorem d_tb_mark_51 : decode prog_1_method_20_code 51 = .ok (.iload_n 2, 1) := by decide +kernel
theorem d_tb_mark_52 : decode prog_1_method_20_code 52 = .ok (.putfield 80, 3) := by decide +kernel
theorem d_tb_mark_55 : decode prog_1_method_20_code 55 = .ok (.iload_n 3, 1) := by decide +kernel
theorem d_tb_mark_56 : decode prog_1_method_20_code 56 = .ok (.ireturn, 1) := by decide +kernel
theorem d_tb_ratio_0 : decode prog_1_method_21_code 0 = .ok (.aload_n 0, 1) := by decide +kernel
theorem d_tb_ratio_1 : decode prog_1_method_21_code 1 = .ok (.getfield 19, 3) := by decide +kernel
theorem d_tb_ratio_4 : decode prog_1_method_21_code 4 = .ok (.iload_n 1, 1) := by decide +kernel
theorem d_tb_ratio_5 : decode prog_1_method_21_code 5 = .ok (.invokevirtual 64, 3) := by decide +kernel
theorem d_tb_ratio_8 : decode prog_1_method_21_code 8 = .ok (.ifCond .ne 7, 3) := by decide +kernel
theorem d_tb_ratio_11 : decode prog_1_method_21_code 11 = .ok (.sipush (-10101), 3) := by decide +kernel
theorem d_tb_ratio_14 : decode prog_1_method_21_code 14 = .ok (.ireturn, 1) := by decide +kernel
theorem d_tb_ratio_15 : decode prog_1_method_21_code 15 = .ok (.iload_n 2, 1) := by decide +kernel
theorem d_tb_ratio_16 : decode prog_1_method_21_code 16 = .ok (.iconst 0, 1) := by decide +kernel
theorem d_tb_ratio_17 : decode prog_1_method_21_code 17 = .ok (.bipush 99, 2) := by decide +kernel
theorem d_tb_ratio_19 : decode prog_1_method_21_code 19 = .ok (.invokestatic 33, 3) := by decide +kernel
theorem d_tb_ratio_22 : decode prog_1_method_21_code 22 = .ok (.ifCond .ne 7, 3) := by decide +kernel
theorem d_tb_ratio_25 : decode prog_1_method_21_code 25 = .ok (.sipush (-10102), 3) := by decide +kernel
theorem d_tb_ratio_28 : decode prog_1_method_21_code 28 = .ok (.ireturn, 1) := by decide +kernel
theorem d_tb_ratio_29 : decode prog_1_method_21_code 29 = .ok (.aload_n 0, 1) := by decide +kernel
theorem d_tb_ratio_30 : decode prog_1_method_21_code 30 = .ok (.getfield 19, 3) := by decide +kernel
theorem d_tb_ratio_33 : decode prog_1_method_21_code 33 = .ok (.getfield 68, 3) := by decide +kernel
theorem d_tb_ratio_36 : decode prog_1_method_21_code 36 = .ok (.iload_n 1, 1) := by decide +kernel
theorem d_tb_ratio_37 : decode prog_1_method_21_code 37 = .ok (.aaload, 1) := by decide +kernel
theorem d_tb_ratio_38 : decode prog_1_method_21_code 38 = .ok (.getfield 83, 3) := by decide +kernel
theorem d_tb_ratio_41 : decode prog_1_method_21_code 41 = .ok (.istore_n 3, 1) := by decide +kernel
theorem d_tb_ratio_42 : decode prog_1_method_21_code 42 = .ok (.aload_n 0, 1) := by decide +kernel
theorem d_tb_ratio_43 : decode prog_1_method_21_code 43 = .ok (.getfield 19, 3) := by decide +kernel
theorem d_tb_ratio_46 : decode prog_1_method_21_code 46 = .ok (.getfield 68, 3) := by decide +kernel
theorem d_tb_ratio_49 : decode prog_1_method_21_code 49 = .ok (.iload_n 1, 1) := by decide +kernel
theorem d_tb_ratio_50 : decode prog_1_method_21_code 50 = .ok (.aaload, 1) := by decide +kernel
theorem d_tb_ratio_51 : decode prog_1_method_21_code 51 = .ok (.iload_n 2, 1) := by decide +kernel
theorem d_tb_ratio_52 : decode prog_1_method_21_code 52 = .ok (.putfield 83, 3) := by decide +kernel
theorem d_tb_ratio_55 : decode prog_1_method_21_code 55 = .ok (.iload_n 3, 1) := by decide +kernel
theorem d_tb_ratio_56 : decode prog_1_method_21_code 56 = .ok (.ireturn, 1) := by decide +kernel
theorem d_tb_add_0 : decode prog_1_method_22_code 0 = .ok (.aload_n 0, 1) := by decide +kernel
theorem d_tb_add_1 : decode prog_1_method_22_code 1 = .ok (.getfield 19, 3) := by decide +kernel
theorem d_tb_add_4 : decode prog_1_method_22_code 4 = .ok (.iload_n 1, 1) := by decide +kernel
theorem d_tb_add_5 : decode prog_1_method_22_code 5 = .ok (.invokevirtual 64, 3) := by decide +kernel
theorem d_tb_add_8 : decode prog_1_method_22_code 8 = .ok (.ifCond .ne 7, 3) := by decide +kernel
theorem d_tb_add_11 : decode prog_1_method_22_code 11 = .ok (.sipush (-10101), 3) := by decide +kernel
theorem d_tb_add_14 : decode prog_1_method_22_code 14 = .ok (.ireturn, 1) := by decide +kernel
theorem d_tb_add_15 : decode prog_1_method_22_code 15 = .ok (.iload_n 2, 1) := by decide +kernel
theorem d_tb_add_16 : decode prog_1_method_22_code 16 = .ok (.iconst 1, 1) := by decide +kernel
theorem d_tb_add_17 : decode prog_1_method_22_code 17 = .ok (.bipush 99, 2) := by decide +kernel
theorem d_tb_add_19 : decode prog_1_method_22_code 19 = .ok (.invokestatic 33, 3) := by decide +kernel
theorem d_tb_add_22 : decode prog_1_method_22_code 22 = .ok (.ifCond .eq 24, 3) := by decide +kernel
theorem d_tb_add_25 : decode prog_1_method_22_code 25 = .ok (.iload_n 3, 1) := by decide +kernel
theorem d_tb_add_26 : decode prog_1_method_22_code 26 = .ok (.iconst 0, 1) := by decide +kernel
theorem d_tb_add_27 : decode prog_1_method_22_code 27 = .ok (.bipush 99, 2) := by decide +kernel
theorem d_tb_add_29 : decode prog_1_method_22_code 29 = .ok (.invokestatic 33, 3) := by decide +kernel
theorem d_tb_add_32 : decode prog_1_method_22_code 32 = .ok (.ifCond .eq 14, 3) := by decide +kernel
theorem d_tb_add_35 : decode prog_1_method_22_code 35 = .ok (.iload 4, 2) := by decide +kernel
theorem d_tb_add_37 : decode prog_1_method_22_code 37 = .ok (.iconst 0, 1) := by decide +kernel
theorem d_tb_add_38 : decode prog_1_method_22_code 38 = .ok (.bipush 63, 2) := by decide +kernel
theorem d_tb_add_40 : decode prog_1_method_22_code 40 = .ok (.invokestatic 33, 3) := by decide +kernel
theorem d_tb_add_43 : decode prog_1_method_22_code 43 = .ok (.ifCond .ne 7, 3) := by decide +kernel
theorem d_tb_add_46 : decode prog_1_method_22_code 46 = .ok (.sipush (-10102), 3) := by decide +kernel
theorem d_tb_add_49 : decode prog_1_method_22_code 49 = .ok (.ireturn, 1) := by decide +kernel
theorem d_tb_add_50 : decode prog_1_method_22_code 50 = .ok (.aload_n 0, 1) := by decide +kernel
theorem d_tb_add_51 : decode prog_1_method_22_code 51 = .ok (.getfield 19, 3) := by decide +kernel
theorem d_tb_add_54 : decode prog_1_method_22_code 54 = .ok (.getfield 68, 3) := by decide +kernel
theorem d_tb_add_57 : decode prog_1_method_22_code 57 = .ok (.iload_n 1, 1) := by decide +kernel
theorem d_tb_add_58 : decode prog_1_method_22_code 58 = .ok (.aaload, 1) := by decide +kernel
theorem d_tb_add_59 : decode prog_1_method_22_code 59 = .ok (.astore 5, 2) := by decide +kernel
theorem d_tb_add_61 : decode prog_1_method_22_code 61 = .ok (.aload 5, 2) := by decide +kernel
theorem d_tb_add_63 : decode prog_1_method_22_code 63 = .ok (.getfield 86, 3) := by decide +kernel
theorem d_tb_add_66 : decode prog_1_method_22_code 66 = .ok (.iconst 3, 1) := by decide +kernel
theorem d_tb_add_67 : decode prog_1_method_22_code 67 = .ok (.if_icmp .lt 7, 3) := by decide +kernel
theorem d_tb_add_70 : decode prog_1_method_22_code 70 = .ok (.sipush (-10104), 3) := by decide +kernel
theorem d_tb_add_73 : decode prog_1_method_22_code 73 = .ok (.ireturn, 1) := by decide +kernel
theorem d_tb_add_74 : decode prog_1_method_22_code 74 = .ok (.aload 5, 2) := by decide +kernel
theorem d_tb_add_76 : decode prog_1_method_22_code 76 = .ok (.iload_n 2, 1) := by decide +kernel
theorem d_tb_add_77 : decode prog_1_method_22_code 77 = .ok (.iload_n 3, 1) := by decide +kernel
theorem d_tb_add_78 : decode prog_1_method_22_code 78 = .ok (.iload 4, 2) := by decide +kernel
theorem d_tb_add_80 : decode prog_1_method_22_code 80 = .ok (.invokevirtual 144, 3) := by decide +kernel
theorem d_tb_add_83 : decode prog_1_method_22_code 83 = .ok (.aload 5, 2) := by decide +kernel
theorem d_tb_add_85 : decode prog_1_method_22_code 85 = .ok (.getfield 86, 3) := by decide +kernel
theorem d_tb_add_88 : decode prog_1_method_22_code 88 = .ok (.ireturn, 1) := by decide +kernel
theorem d_tb_take_0 : decode prog_1_method_23_code 0 = .ok (.aload_n 0, 1) := by decide +kernel
theorem d_tb_take_1 : decode prog_1_method_23_code 1 = .ok (.getfield 19, 3) := by decide +kernel
theorem d_tb_take_4 : decode prog_1_method_23_code 4 = .ok (.iload_n 1, 1) := by decide +kernel
theorem d_tb_take_5 : decode prog_1_method_23_code 5 = .ok (.invokevirtual 64, 3) := by decide +kernel
theorem d_tb_take_8 : decode prog_1_method_23_code 8 = .ok (.ifCond .eq 19, 3) := by decide +kernel
theorem d_tb_take_11 : decode prog_1_method_23_code 11 = .ok (.aload_n 0, 1) := by decide +kernel
theorem d_tb_take_12 : decode prog_1_method_23_code 12 = .ok (.getfield 19, 3) := by decide +kernel
theorem d_tb_take_15 : decode prog_1_method_23_code 15 = .ok (.getfield 68, 3) := by decide +kernel
theorem d_tb_take_18 : decode prog_1_method_23_code 18 = .ok (.iload_n 1, 1) := by decide +kernel
theorem d_tb_take_19 : decode prog_1_method_23_code 19 = .ok (.aaload, 1) := by decide +kernel
theorem d_tb_take_20 : decode prog_1_method_23_code 20 = .ok (.iload_n 2, 1) := by decide +kernel
theorem d_tb_take_21 : decode prog_1_method_23_code 21 = .ok (.invokevirtual 94, 3) := by decide +kernel
theorem d_tb_take_24 : decode prog_1_method_23_code 24 = .ok (.ifCond .ne 7, 3) := by decide +kernel
theorem d_tb_take_27 : decode prog_1_method_23_code 27 = .ok (.sipush (-10101), 3) := by decide +kernel
theorem d_tb_take_30 : decode prog_1_method_23_code 30 = .ok (.ireturn, 1) := by decide +kernel
theorem d_tb_take_31 : decode prog_1_method_23_code 31 = .ok (.aload_n 0, 1) := by decide +kernel
theorem d_tb_take_32 : decode prog_1_method_23_code 32 = .ok (.getfield 19, 3) := by decide +kernel
theorem d_tb_take_35 : decode prog_1_method_23_code 35 = .ok (.getfield 68, 3) := by decide +kernel
theorem d_tb_take_38 : decode prog_1_method_23_code 38 = .ok (.iload_n 1, 1) := by decide +kernel
theorem d_tb_take_39 : decode prog_1_method_23_code 39 = .ok (.aaload, 1) := by decide +kernel
theorem d_tb_take_40 : decode prog_1_method_23_code 40 = .ok (.iload_n 2, 1) := by decide +kernel
theorem d_tb_take_41 : decode prog_1_method_23_code 41 = .ok (.invokevirtual 148, 3) := by decide +kernel
theorem d_tb_take_44 : decode prog_1_method_23_code 44 = .ok (.aload_n 0, 1) := by decide +kernel
theorem d_tb_take_45 : decode prog_1_method_23_code 45 = .ok (.getfield 19, 3) := by decide +kernel
theorem d_tb_take_48 : decode prog_1_method_23_code 48 = .ok (.getfield 68, 3) := by decide +kernel
theorem d_tb_take_51 : decode prog_1_method_23_code 51 = .ok (.iload_n 1, 1) := by decide +kernel
theorem d_tb_take_52 : decode prog_1_method_23_code 52 = .ok (.aaload, 1) := by decide +kernel
theorem d_tb_take_53 : decode prog_1_method_23_code 53 = .ok (.getfield 86, 3) := by decide +kernel
theorem d_tb_take_56 : decode prog_1_method_23_code 56 = .ok (.ireturn, 1) := by decide +kernel
theorem d_tb_be_0 : decode prog_1_method_24_code 0 = .ok (.aload_n 0, 1) := by decide +kernel
theorem d_tb_be_1 : decode prog_1_method_24_code 1 = .ok (.getfield 19, 3) := by decide +kernel
theorem d_tb_be_4 : decode prog_1_method_24_code 4 = .ok (.iload_n 1, 1) := by decide +kernel
theorem d_tb_be_5 : decode prog_1_method_24_code 5 = .ok (.invokevirtual 64, 3) := by decide +kernel
theorem d_tb_be_8 : decode prog_1_method_24_code 8 = .ok (.ifCond .ne 7, 3) := by decide +kernel
theorem d_tb_be_11 : decode prog_1_method_24_code 11 = .ok (.sipush (-10101), 3) := by decide +kernel
theorem d_tb_be_14 : decode prog_1_method_24_code 14 = .ok (.ireturn, 1) := by decide +kernel
theorem d_tb_be_15 : decode prog_1_method_24_code 15 = .ok (.iload_n 2, 1) := by decide +kernel
theorem d_tb_be_16 : decode prog_1_method_24_code 16 = .ok (.iconst 0, 1) := by decide +kernel
theorem d_tb_be_17 : decode prog_1_method_24_code 17 = .ok (.iconst 4, 1) := by decide +kernel
theorem d_tb_be_18 : decode prog_1_method_24_code 18 = .ok (.invokestatic 33, 3) := by decide +kernel
theorem d_tb_be_21 : decode prog_1_method_24_code 21 = .ok (.ifCond .eq 12, 3) := by decide +kernel
theorem d_tb_be_24 : decode prog_1_method_24_code 24 = .ok (.iload_n 1, 1) := by decide +kernel
theorem d_tb_be_25 : decode prog_1_method_24_code 25 = .ok (.ifCond .ne 12, 3) := by decide +kernel
theorem d_tb_be_28 : decode prog_1_method_24_code 28 = .ok (.iload_n 2, 1) := by decide +kernel
theorem d_tb_be_29 : decode prog_1_method_24_code 29 = .ok (.iconst 3, 1) := by decide +kernel
theorem d_tb_be_30 : decode prog_1_method_24_code 30 = .ok (.if_icmp .ne 7, 3) := by decide +kernel
theorem d_tb_be_33 : decode prog_1_method_24_code 33 = .ok (.sipush (-10102), 3) := by decide +kernel
theorem d_tb_be_36 : decode prog_1_method_24_code 36 = .ok (.ireturn, 1) := by decide +kernel
theorem d_tb_be_37 : decode prog_1_method_24_code 37 = .ok (.aload_n 0, 1) := by decide +kernel
theorem d_tb_be_38 : decode prog_1_method_24_code 38 = .ok (.getfield 19, 3) := by decide +kernel
theorem d_tb_be_41 : decode prog_1_method_24_code 41 = .ok (.getfield 68, 3) := by decide +kernel
theorem d_tb_be_44 : decode prog_1_method_24_code 44 = .ok (.iload_n 1, 1) := by decide +kernel
theorem d_tb_be_45 : decode prog_1_method_24_code 45 = .ok (.aaload, 1) := by decide +kernel
theorem d_tb_be_46 : decode prog_1_method_24_code 46 = .ok (.getfield 72, 3) := by decide +kernel
theorem d_tb_be_49 : decode prog_1_method_24_code 49 = .ok (.istore_n 3, 1) := by decide +kernel
theorem d_tb_be_50 : decode prog_1_method_24_code 50 = .ok (.aload_n 0, 1) := by decide +kernel
theorem d_tb_be_51 : decode prog_1_method_24_code 51 = .ok (.getfield 19, 3) := by decide +kernel
theorem d_tb_be_54 : decode prog_1_method_24_code 54 = .ok (.getfield 68, 3) := by decide +kernel
theorem d_tb_be_57 : decode prog_1_method_24_code 57 = .ok (.iload_n 1, 1) := by decide +kernel
theorem d_tb_be_58 : decode prog_1_method_24_code 58 = .ok (.aaload, 1) := by decide +kernel
theorem d_tb_be_59 : decode prog_1_method_24_code 59 = .ok (.iload_n 2, 1) := by decide +kernel
theorem d_tb_be_60 : decode prog_1_method_24_code 60 = .ok (.putfield 72, 3) := by decide +kernel
theorem d_tb_be_63 : decode prog_1_method_24_code 63 = .ok (.iload_n 3, 1) := by decide +kernel
theorem d_tb_be_64 : decode prog_1_method_24_code 64 = .ok (.ireturn, 1) := by decide +kernel
theorem d_tb_see_0 : decode prog_1_method_25_code 0 = .ok (.aload_n 0, 1) := by decide +kernel
theorem d_tb_see_1 : decode prog_1_method_25_code 1 = .ok (.getfield 19, 3) := by decide +kernel
theorem d_tb_see_4 : decode prog_1_method_25_code 4 = .ok (.iload_n 1, 1) := by decide +kernel
theorem d_tb_see_5 : decode prog_1_method_25_code 5 = .ok (.invokevirtual 64, 3) := by decide +kernel
theorem d_tb_see_8 : decode prog_1_method_25_code 8 = .ok (.ifCond .ne 7, 3) := by decide +kernel
theorem d_tb_see_11 : decode prog_1_method_25_code 11 = .ok (.sipush (-10101), 3) := by decide +kernel
theorem d_tb_see_14 : decode prog_1_method_25_code 14 = .ok (.ireturn, 1) := by decide +kernel
theorem d_tb_see_15 : decode prog_1_method_25_code 15 = .ok (.iload_n 2, 1) := by decide +kernel
theorem d_tb_see_16 : decode prog_1_method_25_code 16 = .ok (.iconst 0, 1) := by decide +kernel
theorem d_tb_see_17 : decode prog_1_method_25_code 17 = .ok (.getstatic 152, 3) := by decide +kernel
theorem d_tb_see_20 : decode prog_1_method_25_code 20 = .ok (.arraylength, 1) := by decide +kernel
theorem d_tb_see_21 : decode prog_1_method_25_code 21 = .ok (.iconst 1, 1) := by decide +kernel
theorem d_tb_see_22 : decode prog_1_method_25_code 22 = .ok (.isub, 1) := by decide +kernel
theorem d_tb_see_23 : decode prog_1_method_25_code 23 = .ok (.invokestatic 33, 3) := by decide +kernel
theorem d_tb_see_26 : decode prog_1_method_25_code 26 = .ok (.ifCond .ne 7, 3) := by decide +kernel
theorem d_tb_see_29 : decode prog_1_method_25_code 29 = .ok (.sipush (-10102), 3) := by decide +kernel
theorem d_tb_see_32 : decode prog_1_method_25_code 32 = .ok (.ireturn, 1) := by decide +kernel
theorem d_tb_see_33 : decode prog_1_method_25_code 33 = .ok (.aload_n 0, 1) := by decide +kernel
theorem d_tb_see_34 : decode prog_1_method_25_code 34 = .ok (.getfield 19, 3) := by decide +kernel
theorem d_tb_see_37 : decode prog_1_method_25_code 37 = .ok (.getfield 155, 3) := by decide +kernel
theorem d_tb_see_40 : decode prog_1_method_25_code 40 = .ok (.bipush 6, 2) := by decide +kernel
theorem d_tb_see_42 : decode prog_1_method_25_code 42 = .ok (.if_icmp .lt 7, 3) := by decide +kernel
theorem d_tb_see_45 : decode prog_1_method_25_code 45 = .ok (.sipush (-10104), 3) := by decide +kernel
theorem d_tb_see_48 : decode prog_1_method_25_code 48 = .ok (.ireturn, 1) := by decide +kernel
theorem d_tb_see_49 : decode prog_1_method_25_code 49 = .ok (.aload_n 0, 1) := by decide +kernel
theorem d_tb_see_50 : decode prog_1_method_25_code 50 = .ok (.getfield 19, 3) := by decide +kernel
theorem d_tb_see_53 : decode prog_1_method_25_code 53 = .ok (.getfield 68, 3) := by decide +kernel
theorem d_tb_see_56 : decode prog_1_method_25_code 56 = .ok (.iload_n 1, 1) := by decide +kernel
theorem d_tb_see_57 : decode prog_1_method_25_code 57 = .ok (.aaload, 1) := by decide +kernel
theorem d_tb_see_58 : decode prog_1_method_25_code 58 = .ok (.dup, 1) := by decide +kernel
theorem d_tb_see_59 : decode prog_1_method_25_code 59 = .ok (.getfield 87, 3) := by decide +kernel
theorem d_tb_see_62 : decode prog_1_method_25_code 62 = .ok (.iload_n 3, 1) := by decide +kernel
theorem d_tb_see_63 : decode prog_1_method_25_code 63 = .ok (.ifCond .eq 11, 3) := by decide +kernel
theorem d_tb_see_66 : decode prog_1_method_25_code 66 = .ok (.getstatic 152, 3) := by decide +kernel
theorem d_tb_see_69 : decode prog_1_method_25_code 69 = .ok (.iload_n 2, 1) := by decide +kernel
theorem d_tb_see_70 : decode prog_1_method_25_code 70 = .ok (.iaload, 1) := by decide +kernel
theorem d_tb_see_71 : decode prog_1_method_25_code 71 = .ok (.goto 10, 3) := by decide +kernel
theorem d_tb_see_74 : decode prog_1_method_25_code 74 = .ok (.getstatic 152, 3) := by decide +kernel
theorem d_tb_see_77 : decode prog_1_method_25_code 77 = .ok (.iload_n 2, 1) := by decide +kernel
theorem d_tb_see_78 : decode prog_1_method_25_code 78 = .ok (.iaload, 1) := by decide +kernel
theorem d_tb_see_79 : decode prog_1_method_25_code 79 = .ok (.iconst (-1), 1) := by decide +kernel
theorem d_tb_see_80 : decode prog_1_method_25_code 80 = .ok (.ixor, 1) := by decide +kernel
theorem d_tb_see_81 : decode prog_1_method_25_code 81 = .ok (.iand, 1) := by decide +kernel
theorem d_tb_see_82 : decode prog_1_method_25_code 82 = .ok (.putfield 87, 3) := by decide +kernel
theorem d_tb_see_85 : decode prog_1_method_25_code 85 = .ok (.aload_n 0, 1) := by decide +kernel
theorem d_tb_see_86 : decode prog_1_method_25_code 86 = .ok (.getfield 19, 3) := by decide +kernel
theorem d_tb_see_89 : decode prog_1_method_25_code 89 = .ok (.dup, 1) := by decide +kernel
theorem d_tb_see_90 : decode prog_1_method_25_code 90 = .ok (.getfield 155, 3) := by decide +kernel
theorem d_tb_see_93 : decode prog_1_method_25_code 93 = .ok (.iconst 1, 1) := by decide +kernel
theorem d_tb_see_94 : decode prog_1_method_25_code 94 = .ok (.iadd, 1) := by decide +kernel
theorem d_tb_see_95 : decode prog_1_method_25_code 95 = .ok (.putfield 155, 3) := by decide +kernel
theorem d_tb_see_98 : decode prog_1_method_25_code 98 = .ok (.aload_n 0, 1) := by decide +kernel
theorem d_tb_see_99 : decode prog_1_method_25_code 99 = .ok (.getfield 19, 3) := by decide +kernel
theorem d_tb_see_102 : decode prog_1_method_25_code 102 = .ok (.getfield 155, 3) := by decide +kernel
theorem d_tb_see_105 : decode prog_1_method_25_code 105 = .ok (.ireturn, 1) := by decide +kernel
theorem d_tb_forget_0 : decode prog_1_method_26_code 0 = .ok (.aload_n 0, 1) := by decide +kernel
theorem d_tb_forget_1 : decode prog_1_method_26_code 1 = .ok (.getfield 19, 3) := by decide +kernel
theorem d_tb_forget_4 : decode prog_1_method_26_code 4 = .ok (.getfield 155, 3) := by decide +kernel
theorem d_tb_forget_7 : decode prog_1_method_26_code 7 = .ok (.istore_n 1, 1) := by decide +kernel
theorem d_tb_forget_8 : decode prog_1_method_26_code 8 = .ok (.iconst 0, 1) := by decide +kernel
theorem d_tb_forget_9 : decode prog_1_method_26_code 9 = .ok (.istore_n 2, 1) := by decide +kernel
theorem d_tb_forget_10 : decode prog_1_method_26_code 10 = .ok (.iload_n 2, 1) := by decide +kernel
theorem d_tb_forget_11 : decode prog_1_method_26_code 11 = .ok (.aload_n 0, 1) := by decide +kernel
theorem d_tb_forget_12 : decode prog_1_method_26_code 12 = .ok (.getfield 19, 3) := by decide +kernel
theorem d_tb_forget_15 : decode prog_1_method_26_code 15 = .ok (.getfield 63, 3) := by decide +kernel
theorem d_tb_forget_18 : decode prog_1_method_26_code 18 = .ok (.if_icmp .ge 23, 3) := by decide +kernel
theorem d_tb_forget_21 : decode prog_1_method_26_code 21 = .ok (.aload_n 0, 1) := by decide +kernel
theorem d_tb_forget_22 : decode prog_1_method_26_code 22 = .ok (.getfield 19, 3) := by decide +kernel
theorem d_tb_forget_25 : decode prog_1_method_26_code 25 = .ok (.getfield 68, 3) := by decide +kernel
theorem d_tb_forget_28 : decode prog_1_method_26_code 28 = .ok (.iload_n 2, 1) := by decide +kernel
theorem d_tb_forget_29 : decode prog_1_method_26_code 29 = .ok (.aaload, 1) := by decide +kernel
theorem d_tb_forget_30 : decode prog_1_method_26_code 30 = .ok (.bipush 31, 2) := by decide +kernel
theorem d_tb_forget_32 : decode prog_1_method_26_code 32 = .ok (.putfield 87, 3) := by decide +kernel
theorem d_tb_forget_35 : decode prog_1_method_26_code 35 = .ok (.iinc 2 1, 3) := by decide +kernel
theorem d_tb_forget_38 : decode prog_1_method_26_code 38 = .ok (.goto (-28), 3) := by decide +kernel
theorem d_tb_forget_41 : decode prog_1_method_26_code 41 = .ok (.aload_n 0, 1) := by decide +kernel
theorem d_tb_forget_42 : decode prog_1_method_26_code 42 = .ok (.getfield 19, 3) := by decide +kernel
theorem d_tb_forget_45 : decode prog_1_method_26_code 45 = .ok (.iconst 0, 1) := by decide +kernel
theorem d_tb_forget_46 : decode prog_1_method_26_code 46 = .ok (.putfield 155, 3) := by decide +kernel
theorem d_tb_forget_49 : decode prog_1_method_26_code 49 = .ok (.iload_n 1, 1) := by decide +kernel
theorem d_tb_forget_50 : decode prog_1_method_26_code 50 = .ok (.ireturn, 1) := by decide +kernel
theorem d_tb_drawn_0 : decode prog_1_method_27_code 0 = .ok (.iload_n 1, 1) := by decide +kernel
theorem d_tb_drawn_1 : decode prog_1_method_27_code 1 = .ok (.iconst 1, 1) := by decide +kernel
theorem d_tb_drawn_2 : decode prog_1_method_27_code 2 = .ok (.bipush 50, 2) := by decide +kernel
theorem d_tb_drawn_4 : decode prog_1_method_27_code 4 = .ok (.invokestatic 33, 3) := by decide +kernel
theorem d_tb_drawn_7 : decode prog_1_method_27_code 7 = .ok (.ifCond .eq 16, 3) := by decide +kernel
theorem d_tb_drawn_10 : decode prog_1_method_27_code 10 = .ok (.iload_n 2, 1) := by decide +kernel
theorem d_tb_drawn_11 : decode prog_1_method_27_code 11 = .ok (.ifCond .lt 12, 3) := by decide +kernel
theorem d_tb_drawn_14 : decode prog_1_method_27_code 14 = .ok (.iload_n 3, 1) := by decide +kernel
theorem d_tb_drawn_15 : decode prog_1_method_27_code 15 = .ok (.iconst 0, 1) := by decide +kernel
theorem d_tb_drawn_16 : decode prog_1_method_27_code 16 = .ok (.iconst 2, 1) := by decide +kernel
theorem d_tb_drawn_17 : decode prog_1_method_27_code 17 = .ok (.invokestatic 33, 3) := by decide +kernel
theorem d_tb_drawn_20 : decode prog_1_method_27_code 20 = .ok (.ifCond .ne 7, 3) := by decide +kernel
theorem d_tb_drawn_23 : decode prog_1_method_27_code 23 = .ok (.sipush (-10102), 3) := by decide +kernel
theorem d_tb_drawn_26 : decode prog_1_method_27_code 26 = .ok (.ireturn, 1) := by decide +kernel
theorem d_tb_drawn_27 : decode prog_1_method_27_code 27 = .ok (.aload_n 0, 1) := by decide +kernel
theorem d_tb_drawn_28 : decode prog_1_method_27_code 28 = .ok (.getfield 19, 3) := by decide +kernel
theorem d_tb_drawn_31 : decode prog_1_method_27_code 31 = .ok (.getfield 63, 3) := by decide +kernel
theorem d_tb_drawn_34 : decode prog_1_method_27_code 34 = .ok (.ifCond .ne 7, 3) := by decide +kernel
theorem d_tb_drawn_37 : decode prog_1_method_27_code 37 = .ok (.sipush (-10103), 3) := by decide +kernel
theorem d_tb_drawn_40 : decode prog_1_method_27_code 40 = .ok (.ireturn, 1) := by decide +kernel
theorem d_tb_drawn_41 : decode prog_1_method_27_code 41 = .ok (.iconst 0, 1) := by decide +kernel
theorem d_tb_drawn_42 : decode prog_1_method_27_code 42 = .ok (.istore 4, 2) := by decide +kernel
theorem d_tb_drawn_44 : decode prog_1_method_27_code 44 = .ok (.iconst 0, 1) := by decide +kernel
theorem d_tb_drawn_45 : decode prog_1_method_27_code 45 = .ok (.istore 5, 2) := by decide +kernel
theorem d_tb_drawn_47 : decode prog_1_method_27_code 47 = .ok (.iload_n 2, 1) := by decide +kernel
theorem d_tb_drawn_48 : decode prog_1_method_27_code 48 = .ok (.istore 6, 2) := by decide +kernel
theorem d_tb_drawn_50 : decode prog_1_method_27_code 50 = .ok (.iconst 0, 1) := by decide +kernel
theorem d_tb_drawn_51 : decode prog_1_method_27_code 51 = .ok (.istore 7, 2) := by decide +kernel
theorem d_tb_drawn_53 : decode prog_1_method_27_code 53 = .ok (.iload 7, 2) := by decide +kernel
theorem d_tb_drawn_55 : decode prog_1_method_27_code 55 = .ok (.iload_n 1, 1) := by decide +kernel
theorem d_tb_drawn_56 : decode prog_1_method_27_code 56 = .ok (.if_icmp .ge 89, 3) := by decide +kernel
theorem d_tb_drawn_59 : decode prog_1_method_27_code 59 = .ok (.iload 6, 2) := by decide +kernel
theorem d_tb_drawn_61 : decode prog_1_method_27_code 61 = .ok (.invokestatic 158, 3) := by decide +kernel
theorem d_tb_drawn_64 : decode prog_1_method_27_code 64 = .ok (.istore 6, 2) := by decide +kernel
theorem d_tb_drawn_66 : decode prog_1_method_27_code 66 = .ok (.iload 6, 2) := by decide +kernel
theorem d_tb_drawn_68 : decode prog_1_method_27_code 68 = .ok (.bipush 16, 2) := by decide +kernel
theorem d_tb_drawn_70 : decode prog_1_method_27_code 70 = .ok (.ishr, 1) := by decide +kernel
theorem d_tb_drawn_71 : decode prog_1_method_27_code 71 = .ok (.aload_n 0, 1) := by decide +kernel
theorem d_tb_drawn_72 : decode prog_1_method_27_code 72 = .ok (.getfield 19, 3) := by decide +kernel
theorem d_tb_drawn_75 : decode prog_1_method_27_code 75 = .ok (.getfield 63, 3) := by decide +kernel
theorem d_tb_drawn_78 : decode prog_1_method_27_code 78 = .ok (.irem, 1) := by decide +kernel
theorem d_tb_drawn_79 : decode prog_1_method_27_code 79 = .ok (.istore 8, 2) := by decide +kernel
theorem d_tb_drawn_81 : decode prog_1_method_27_code 81 = .ok (.iload 6, 2) := by decide +kernel
theorem d_tb_drawn_83 : decode prog_1_method_27_code 83 = .ok (.invokestatic 158, 3) := by decide +kernel
theorem d_tb_drawn_86 : decode prog_1_method_27_code 86 = .ok (.istore 6, 2) := by decide +kernel
theorem d_tb_drawn_88 : decode prog_1_method_27_code 88 = .ok (.aload_n 0, 1) := by decide +kernel
theorem d_tb_drawn_89 : decode prog_1_method_27_code 89 = .ok (.getfield 19, 3) := by decide +kernel
theorem d_tb_drawn_92 : decode prog_1_method_27_code 92 = .ok (.iload 8, 2) := by decide +kernel
theorem d_tb_drawn_94 : decode prog_1_method_27_code 94 = .ok (.iload 6, 2) := by decide +kernel
theorem d_tb_drawn_96 : decode prog_1_method_27_code 96 = .ok (.bipush 16, 2) := by decide +kernel
theorem d_tb_drawn_98 : decode prog_1_method_27_code 98 = .ok (.ishr, 1) := by decide +kernel
theorem d_tb_drawn_99 : decode prog_1_method_27_code 99 = .ok (.sipush 1440, 3) := by decide +kernel
theorem d_tb_drawn_102 : decode prog_1_method_27_code 102 = .ok (.irem, 1) := by decide +kernel
theorem d_tb_drawn_103 : decode prog_1_method_27_code 103 = .ok (.invokevirtual 121, 3) := by decide +kernel
theorem d_tb_drawn_106 : decode prog_1_method_27_code 106 = .ok (.istore 9, 2) := by decide +kernel
theorem d_tb_drawn_108 : decode prog_1_method_27_code 108 = .ok (.iload 9, 2) := by decide +kernel
theorem d_tb_drawn_110 : decode prog_1_method_27_code 110 = .ok (.bipush 10, 2) := by decide +kernel
theorem d_tb_drawn_112 : decode prog_1_method_27_code 112 = .ok (.aload_n 0, 1) := by decide +kernel
theorem d_tb_drawn_113 : decode prog_1_method_27_code 113 = .ok (.getfield 19, 3) := by decide +kernel
theorem d_tb_drawn_116 : decode prog_1_method_27_code 116 = .ok (.getfield 68, 3) := by decide +kernel
theorem d_tb_drawn_119 : decode prog_1_method_27_code 119 = .ok (.iload 8, 2) := by decide +kernel
theorem d_tb_drawn_121 : decode prog_1_method_27_code 121 = .ok (.aaload, 1) := by decide +kernel
theorem d_tb_drawn_122 : decode prog_1_method_27_code 122 = .ok (.getfield 77, 3) := by decide +kernel
theorem d_tb_drawn_125 : decode prog_1_method_27_code 125 = .ok (.imul, 1) := by decide +kernel
theorem d_tb_drawn_126 : decode prog_1_method_27_code 126 = .ok (.if_icmp .lt 6, 3) := by decide +kernel
theorem d_tb_drawn_129 : decode prog_1_method_27_code 129 = .ok (.iinc 4 1, 3) := by decide +kernel
theorem d_tb_drawn_132 : decode prog_1_method_27_code 132 = .ok (.iload 5, 2) := by decide +kernel
theorem d_tb_drawn_134 : decode prog_1_method_27_code 134 = .ok (.iload 9, 2) := by decide +kernel
theorem d_tb_drawn_136 : decode prog_1_method_27_code 136 = .ok (.iadd, 1) := by decide +kernel
theorem d_tb_drawn_137 : decode prog_1_method_27_code 137 = .ok (.istore 5, 2) := by decide +kernel
theorem d_tb_drawn_139 : decode prog_1_method_27_code 139 = .ok (.iinc 7 1, 3) := by decide +kernel
theorem d_tb_drawn_142 : decode prog_1_method_27_code 142 = .ok (.goto (-89), 3) := by decide +kernel
theorem d_tb_drawn_145 : decode prog_1_method_27_code 145 = .ok (.iload_n 3, 1) := by decide +kernel
theorem d_tb_drawn_146 : decode prog_1_method_27_code 146 = .ok (.ifCond .ne 8, 3) := by decide +kernel
theorem d_tb_drawn_149 : decode prog_1_method_27_code 149 = .ok (.iload 4, 2) := by decide +kernel
theorem d_tb_drawn_151 : decode prog_1_method_27_code 151 = .ok (.goto 15, 3) := by decide +kernel
theorem d_tb_drawn_154 : decode prog_1_method_27_code 154 = .ok (.iload_n 3, 1) := by decide +kernel
theorem d_tb_drawn_155 : decode prog_1_method_27_code 155 = .ok (.iconst 1, 1) := by decide +kernel
theorem d_tb_drawn_156 : decode prog_1_method_27_code 156 = .ok (.if_icmp .ne 8, 3) := by decide +kernel
theorem d_tb_drawn_159 : decode prog_1_method_27_code 159 = .ok (.iload 5, 2) := by decide +kernel
theorem d_tb_drawn_161 : decode prog_1_method_27_code 161 = .ok (.goto 5, 3) := by decide +kernel
theorem d_tb_drawn_164 : decode prog_1_method_27_code 164 = .ok (.iload 6, 2) := by decide +kernel
theorem d_tb_drawn_166 : decode prog_1_method_27_code 166 = .ok (.ireturn, 1) := by decide +kernel
theorem d_tb_image_0 : decode prog_1_method_28_code 0 = .ok (.aload_n 0, 1) := by decide +kernel
theorem d_tb_image_1 : decode prog_1_method_28_code 1 = .ok (.getfield 19, 3) := by decide +kernel
theorem d_tb_image_4 : decode prog_1_method_28_code 4 = .ok (.getfield 63, 3) := by decide +kernel
theorem d_tb_image_7 : decode prog_1_method_28_code 7 = .ok (.ifCond .ne 7, 3) := by decide +kernel
theorem d_tb_image_10 : decode prog_1_method_28_code 10 = .ok (.sipush (-10103), 3) := by decide +kernel
theorem d_tb_image_13 : decode prog_1_method_28_code 13 = .ok (.ireturn, 1) := by decide +kernel
theorem d_tb_image_14 : decode prog_1_method_28_code 14 = .ok (.aload_n 0, 1) := by decide +kernel
theorem d_tb_image_15 : decode prog_1_method_28_code 15 = .ok (.getfield 23, 3) := by decide +kernel
theorem d_tb_image_18 : decode prog_1_method_28_code 18 = .ok (.aload_n 0, 1) := by decide +kernel
theorem d_tb_image_19 : decode prog_1_method_28_code 19 = .ok (.getfield 19, 3) := by decide +kernel
theorem d_tb_image_22 : decode prog_1_method_28_code 22 = .ok (.invokevirtual 161, 3) := by decide +kernel
theorem d_tb_image_25 : decode prog_1_method_28_code 25 = .ok (.aload_n 0, 1) := by decide +kernel
theorem d_tb_image_26 : decode prog_1_method_28_code 26 = .ok (.iconst 1, 1) := by decide +kernel
theorem d_tb_image_27 : decode prog_1_method_28_code 27 = .ok (.putfield 56, 3) := by decide +kernel
theorem d_tb_image_30 : decode prog_1_method_28_code 30 = .ok (.aload_n 0, 1) := by decide +kernel
theorem d_tb_image_31 : decode prog_1_method_28_code 31 = .ok (.getfield 19, 3) := by decide +kernel
theorem d_tb_image_34 : decode prog_1_method_28_code 34 = .ok (.getfield 63, 3) := by decide +kernel
theorem d_tb_image_37 : decode prog_1_method_28_code 37 = .ok (.ireturn, 1) := by decide +kernel
theorem d_tb_restore_0 : decode prog_1_method_29_code 0 = .ok (.aload_n 0, 1) := by decide +kernel
theorem d_tb_restore_1 : decode prog_1_method_29_code 1 = .ok (.getfield 56, 3) := by decide +kernel
theorem d_tb_restore_4 : decode prog_1_method_29_code 4 = .ok (.ifCond .ne 7, 3) := by decide +kernel
theorem d_tb_restore_7 : decode prog_1_method_29_code 7 = .ok (.sipush (-10103), 3) := by decide +kernel
theorem d_tb_restore_10 : decode prog_1_method_29_code 10 = .ok (.ireturn, 1) := by decide +kernel
theorem d_tb_restore_11 : decode prog_1_method_29_code 11 = .ok (.aload_n 0, 1) := by decide +kernel
theorem d_tb_restore_12 : decode prog_1_method_29_code 12 = .ok (.getfield 19, 3) := by decide +kernel
theorem d_tb_restore_15 : decode prog_1_method_29_code 15 = .ok (.aload_n 0, 1) := by decide +kernel
theorem d_tb_restore_16 : decode prog_1_method_29_code 16 = .ok (.getfield 23, 3) := by decide +kernel
theorem d_tb_restore_19 : decode prog_1_method_29_code 19 = .ok (.invokevirtual 161, 3) := by decide +kernel
theorem d_tb_restore_22 : decode prog_1_method_29_code 22 = .ok (.aload_n 0, 1) := by decide +kernel
theorem d_tb_restore_23 : decode prog_1_method_29_code 23 = .ok (.getfield 19, 3) := by decide +kernel
theorem d_tb_restore_26 : decode prog_1_method_29_code 26 = .ok (.getfield 63, 3) := by decide +kernel
theorem d_tb_restore_29 : decode prog_1_method_29_code 29 = .ok (.ireturn, 1) := by decide +kernel
theorem d_tb_count_0 : decode prog_1_method_30_code 0 = .ok (.iload_n 1, 1) := by decide +kernel
theorem d_tb_count_1 : decode prog_1_method_30_code 1 = .ok (.tableswitch 96 0 6 #[43, 51, 59, 67, 75, 83, 91], 43) := by decide +kernel
theorem d_tb_count_44 : decode prog_1_method_30_code 44 = .ok (.aload_n 0, 1) := by decide +kernel
theorem d_tb_count_45 : decode prog_1_method_30_code 45 = .ok (.getfield 19, 3) := by decide +kernel
theorem d_tb_count_48 : decode prog_1_method_30_code 48 = .ok (.getfield 63, 3) := by decide +kernel
theorem d_tb_count_51 : decode prog_1_method_30_code 51 = .ok (.ireturn, 1) := by decide +kernel
theorem d_tb_count_52 : decode prog_1_method_30_code 52 = .ok (.aload_n 0, 1) := by decide +kernel
theorem d_tb_count_53 : decode prog_1_method_30_code 53 = .ok (.getfield 19, 3) := by decide +kernel
theorem d_tb_count_56 : decode prog_1_method_30_code 56 = .ok (.invokevirtual 164, 3) := by decide +kernel
theorem d_tb_count_59 : decode prog_1_method_30_code 59 = .ok (.ireturn, 1) := by decide +kernel
theorem d_tb_count_60 : decode prog_1_method_30_code 60 = .ok (.aload_n 0, 1) := by decide +kernel
theorem d_tb_count_61 : decode prog_1_method_30_code 61 = .ok (.getfield 19, 3) := by decide +kernel
theorem d_tb_count_64 : decode prog_1_method_30_code 64 = .ok (.invokevirtual 167, 3) := by decide +kernel
theorem d_tb_count_67 : decode prog_1_method_30_code 67 = .ok (.ireturn, 1) := by decide +kernel
theorem d_tb_count_68 : decode prog_1_method_30_code 68 = .ok (.aload_n 0, 1) := by decide +kernel
theorem d_tb_count_69 : decode prog_1_method_30_code 69 = .ok (.getfield 19, 3) := by decide +kernel
theorem d_tb_count_72 : decode prog_1_method_30_code 72 = .ok (.invokevirtual 170, 3) := by decide +kernel
theorem d_tb_count_75 : decode prog_1_method_30_code 75 = .ok (.ireturn, 1) := by decide +kernel
theorem d_tb_count_76 : decode prog_1_method_30_code 76 = .ok (.aload_n 0, 1) := by decide +kernel
theorem d_tb_count_77 : decode prog_1_method_30_code 77 = .ok (.getfield 19, 3) := by decide +kernel
theorem d_tb_count_80 : decode prog_1_method_30_code 80 = .ok (.getfield 155, 3) := by decide +kernel
theorem d_tb_count_83 : decode prog_1_method_30_code 83 = .ok (.ireturn, 1) := by decide +kernel
theorem d_tb_count_84 : decode prog_1_method_30_code 84 = .ok (.aload_n 0, 1) := by decide +kernel
theorem d_tb_count_85 : decode prog_1_method_30_code 85 = .ok (.getfield 12, 3) := by decide +kernel
theorem d_tb_count_88 : decode prog_1_method_30_code 88 = .ok (.getfield 37, 3) := by decide +kernel
theorem d_tb_count_91 : decode prog_1_method_30_code 91 = .ok (.ireturn, 1) := by decide +kernel
theorem d_tb_count_92 : decode prog_1_method_30_code 92 = .ok (.aload_n 0, 1) := by decide +kernel
theorem d_tb_count_93 : decode prog_1_method_30_code 93 = .ok (.getfield 60, 3) := by decide +kernel
theorem d_tb_count_96 : decode prog_1_method_30_code 96 = .ok (.ireturn, 1) := by decide +kernel
theorem d_tb_count_97 : decode prog_1_method_30_code 97 = .ok (.sipush (-10102), 3) := by decide +kernel
theorem d_tb_count_100 : decode prog_1_method_30_code 100 = .ok (.ireturn, 1) := by decide +kernel
theorem d_tb_digest_0 : decode prog_1_method_31_code 0 = .ok (.ldc2_w 173, 3) := by decide +kernel
theorem d_tb_digest_3 : decode prog_1_method_31_code 3 = .ok (.lstore_n 1, 1) := by decide +kernel
theorem d_tb_digest_4 : decode prog_1_method_31_code 4 = .ok (.iconst 0, 1) := by decide +kernel
theorem d_tb_digest_5 : decode prog_1_method_31_code 5 = .ok (.istore_n 3, 1) := by decide +kernel
theorem d_tb_digest_6 : decode prog_1_method_31_code 6 = .ok (.iload_n 3, 1) := by decide +kernel
theorem d_tb_digest_7 : decode prog_1_method_31_code 7 = .ok (.aload_n 0, 1) := by decide +kernel
theorem d_tb_digest_8 : decode prog_1_method_31_code 8 = .ok (.getfield 19, 3) := by decide +kernel
theorem d_tb_digest_11 : decode prog_1_method_31_code 11 = .ok (.getfield 63, 3) := by decide +kernel
theorem d_tb_digest_14 : decode prog_1_method_31_code 14 = .ok (.if_icmp .ge 16, 3) := by decide +kernel
theorem d_tb_digest_17 : decode prog_1_method_31_code 17 = .ok (.aload_n 0, 1) := by decide +kernel
theorem d_tb_digest_18 : decode prog_1_method_31_code 18 = .ok (.lload_n 1, 1) := by decide +kernel
theorem d_tb_digest_19 : decode prog_1_method_31_code 19 = .ok (.iload_n 3, 1) := by decide +kernel
theorem d_tb_digest_20 : decode prog_1_method_31_code 20 = .ok (.invokevirtual 175, 3) := by decide +kernel
theorem d_tb_digest_23 : decode prog_1_method_31_code 23 = .ok (.lstore_n 1, 1) := by decide +kernel
theorem d_tb_digest_24 : decode prog_1_method_31_code 24 = .ok (.iinc 3 1, 3) := by decide +kernel
theorem d_tb_digest_27 : decode prog_1_method_31_code 27 = .ok (.goto (-21), 3) := by decide +kernel
theorem d_tb_digest_30 : decode prog_1_method_31_code 30 = .ok (.iconst 0, 1) := by decide +kernel
theorem d_tb_digest_31 : decode prog_1_method_31_code 31 = .ok (.istore_n 3, 1) := by decide +kernel
theorem d_tb_digest_32 : decode prog_1_method_31_code 32 = .ok (.iload_n 3, 1) := by decide +kernel
theorem d_tb_digest_33 : decode prog_1_method_31_code 33 = .ok (.aload_n 0, 1) := by decide +kernel
theorem d_tb_digest_34 : decode prog_1_method_31_code 34 = .ok (.getfield 12, 3) := by decide +kernel
theorem d_tb_digest_37 : decode prog_1_method_31_code 37 = .ok (.getfield 37, 3) := by decide +kernel
theorem d_tb_digest_40 : decode prog_1_method_31_code 40 = .ok (.if_icmp .ge 23, 3) := by decide +kernel
theorem d_tb_digest_43 : decode prog_1_method_31_code 43 = .ok (.lload_n 1, 1) := by decide +kernel
theorem d_tb_digest_44 : decode prog_1_method_31_code 44 = .ok (.aload_n 0, 1) := by decide +kernel
theorem d_tb_digest_45 : decode prog_1_method_31_code 45 = .ok (.getfield 12, 3) := by decide +kernel
theorem d_tb_digest_48 : decode prog_1_method_31_code 48 = .ok (.getfield 41, 3) := by decide +kernel
theorem d_tb_digest_51 : decode prog_1_method_31_code 51 = .ok (.iload_n 3, 1) := by decide +kernel
theorem d_tb_digest_52 : decode prog_1_method_31_code 52 = .ok (.iaload, 1) := by decide +kernel
theorem d_tb_digest_53 : decode prog_1_method_31_code 53 = .ok (.invokestatic 179, 3) := by decide +kernel
theorem d_tb_digest_56 : decode prog_1_method_31_code 56 = .ok (.lstore_n 1, 1) := by decide +kernel
theorem d_tb_digest_57 : decode prog_1_method_31_code 57 = .ok (.iinc 3 1, 3) := by decide +kernel
theorem d_tb_digest_60 : decode prog_1_method_31_code 60 = .ok (.goto (-28), 3) := by decide +kernel
theorem d_tb_digest_63 : decode prog_1_method_31_code 63 = .ok (.iconst 0, 1) := by decide +kernel
theorem d_tb_digest_64 : decode prog_1_method_31_code 64 = .ok (.istore_n 3, 1) := by decide +kernel
theorem d_tb_digest_65 : decode prog_1_method_31_code 65 = .ok (.iload_n 3, 1) := by decide +kernel
theorem d_tb_digest_66 : decode prog_1_method_31_code 66 = .ok (.bipush 6, 2) := by decide +kernel
theorem d_tb_digest_68 : decode prog_1_method_31_code 68 = .ok (.if_icmp .gt 19, 3) := by decide +kernel
theorem d_tb_digest_71 : decode prog_1_method_31_code 71 = .ok (.lload_n 1, 1) := by decide +kernel
theorem d_tb_digest_72 : decode prog_1_method_31_code 72 = .ok (.aload_n 0, 1) := by decide +kernel
theorem d_tb_digest_73 : decode prog_1_method_31_code 73 = .ok (.iload_n 3, 1) := by decide +kernel
theorem d_tb_digest_74 : decode prog_1_method_31_code 74 = .ok (.invokevirtual 182, 3) := by decide +kernel
theorem d_tb_digest_77 : decode prog_1_method_31_code 77 = .ok (.invokestatic 179, 3) := by decide +kernel
theorem d_tb_digest_80 : decode prog_1_method_31_code 80 = .ok (.lstore_n 1, 1) := by decide +kernel
theorem d_tb_digest_81 : decode prog_1_method_31_code 81 = .ok (.iinc 3 1, 3) := by decide +kernel
theorem d_tb_digest_84 : decode prog_1_method_31_code 84 = .ok (.goto (-19), 3) := by decide +kernel
theorem d_tb_digest_87 : decode prog_1_method_31_code 87 = .ok (.lload_n 1, 1) := by decide +kernel
theorem d_tb_digest_88 : decode prog_1_method_31_code 88 = .ok (.lreturn, 1) := by decide +kernel
theorem d_tb_withPort_0 : decode prog_1_method_32_code 0 = .ok (.lload_n 1, 1) := by decide +kernel
theorem d_tb_withPort_1 : decode prog_1_method_32_code 1 = .ok (.lstore 4, 2) := by decide +kernel
theorem d_tb_withPort_3 : decode prog_1_method_32_code 3 = .ok (.iconst 0, 1) := by decide +kernel
theorem d_tb_withPort_4 : decode prog_1_method_32_code 4 = .ok (.istore 6, 2) := by decide +kernel
theorem d_tb_withPort_6 : decode prog_1_method_32_code 6 = .ok (.iload 6, 2) := by decide +kernel
theorem d_tb_withPort_8 : decode prog_1_method_32_code 8 = .ok (.bipush 6, 2) := by decide +kernel
theorem d_tb_withPort_10 : decode prog_1_method_32_code 10 = .ok (.if_icmp .gt 23, 3) := by decide +kernel
theorem d_tb_withPort_13 : decode prog_1_method_32_code 13 = .ok (.lload 4, 2) := by decide +kernel
theorem d_tb_withPort_15 : decode prog_1_method_32_code 15 = .ok (.aload_n 0, 1) := by decide +kernel
theorem d_tb_withPort_16 : decode prog_1_method_32_code 16 = .ok (.iload_n 3, 1) := by decide +kernel
theorem d_tb_withPort_17 : decode prog_1_method_32_code 17 = .ok (.iload 6, 2) := by decide +kernel
theorem d_tb_withPort_19 : decode prog_1_method_32_code 19 = .ok (.invokevirtual 185, 3) := by decide +kernel
theorem d_tb_withPort_22 : decode prog_1_method_32_code 22 = .ok (.invokestatic 179, 3) := by decide +kernel
theorem d_tb_withPort_25 : decode prog_1_method_32_code 25 = .ok (.lstore 4, 2) := by decide +kernel
theorem d_tb_withPort_27 : decode prog_1_method_32_code 27 = .ok (.iinc 6 1, 3) := by decide +kernel
theorem d_tb_withPort_30 : decode prog_1_method_32_code 30 = .ok (.goto (-24), 3) := by decide +kernel
theorem d_tb_withPort_33 : decode prog_1_method_32_code 33 = .ok (.iconst 0, 1) := by decide +kernel
theorem d_tb_withPort_34 : decode prog_1_method_32_code 34 = .ok (.istore 6, 2) := by decide +kernel
theorem d_tb_withPort_36 : decode prog_1_method_32_code 36 = .ok (.iload 6, 2) := by decide +kernel
theorem d_tb_withPort_38 : decode prog_1_method_32_code 38 = .ok (.aload_n 0, 1) := by decide +kernel
theorem d_tb_withPort_39 : decode prog_1_method_32_code 39 = .ok (.getfield 19, 3) := by decide +kernel
theorem d_tb_withPort_42 : decode prog_1_method_32_code 42 = .ok (.getfield 68, 3) := by decide +kernel
theorem d_tb_withPort_45 : decode prog_1_method_32_code 45 = .ok (.iload_n 3, 1) := by decide +kernel
theorem d_tb_withPort_46 : decode prog_1_method_32_code 46 = .ok (.aaload, 1) := by decide +kernel
theorem d_tb_withPort_47 : decode prog_1_method_32_code 47 = .ok (.getfield 86, 3) := by decide +kernel
theorem d_tb_withPort_50 : decode prog_1_method_32_code 50 = .ok (.if_icmp .ge 40, 3) := by decide +kernel
theorem d_tb_withPort_53 : decode prog_1_method_32_code 53 = .ok (.iconst 0, 1) := by decide +kernel
theorem d_tb_withPort_54 : decode prog_1_method_32_code 54 = .ok (.istore 7, 2) := by decide +kernel
theorem d_tb_withPort_56 : decode prog_1_method_32_code 56 = .ok (.iload 7, 2) := by decide +kernel
theorem d_tb_withPort_58 : decode prog_1_method_32_code 58 = .ok (.iconst 2, 1) := by decide +kernel
theorem d_tb_withPort_59 : decode prog_1_method_32_code 59 = .ok (.if_icmp .gt 25, 3) := by decide +kernel
theorem d_tb_withPort_62 : decode prog_1_method_32_code 62 = .ok (.lload 4, 2) := by decide +kernel
theorem d_tb_withPort_64 : decode prog_1_method_32_code 64 = .ok (.aload_n 0, 1) := by decide +kernel
theorem d_tb_withPort_65 : decode prog_1_method_32_code 65 = .ok (.iload_n 3, 1) := by decide +kernel
theorem d_tb_withPort_66 : decode prog_1_method_32_code 66 = .ok (.iload 6, 2) := by decide +kernel
theorem d_tb_withPort_68 : decode prog_1_method_32_code 68 = .ok (.iload 7, 2) := by decide +kernel
theorem d_tb_withPort_70 : decode prog_1_method_32_code 70 = .ok (.invokevirtual 188, 3) := by decide +kernel
theorem d_tb_withPort_73 : decode prog_1_method_32_code 73 = .ok (.invokestatic 179, 3) := by decide +kernel
theorem d_tb_withPort_76 : decode prog_1_method_32_code 76 = .ok (.lstore 4, 2) := by decide +kernel
theorem d_tb_withPort_78 : decode prog_1_method_32_code 78 = .ok (.iinc 7 1, 3) := by decide +kernel
theorem d_tb_withPort_81 : decode prog_1_method_32_code 81 = .ok (.goto (-25), 3) := by decide +kernel
theorem d_tb_withPort_84 : decode prog_1_method_32_code 84 = .ok (.iinc 6 1, 3) := by decide +kernel
theorem d_tb_withPort_87 : decode prog_1_method_32_code 87 = .ok (.goto (-51), 3) := by decide +kernel
theorem d_tb_withPort_90 : decode prog_1_method_32_code 90 = .ok (.getstatic 192, 3) := by decide +kernel
theorem d_tb_withPort_93 : decode prog_1_method_32_code 93 = .ok (.astore 6, 2) := by decide +kernel
theorem d_tb_withPort_95 : decode prog_1_method_32_code 95 = .ok (.aload 6, 2) := by decide +kernel
theorem d_tb_withPort_97 : decode prog_1_method_32_code 97 = .ok (.arraylength, 1) := by decide +kernel
theorem d_tb_withPort_98 : decode prog_1_method_32_code 98 = .ok (.istore 7, 2) := by decide +kernel
theorem d_tb_withPort_100 : decode prog_1_method_32_code 100 = .ok (.iconst 0, 1) := by decide +kernel
theorem d_tb_withPort_101 : decode prog_1_method_32_code 101 = .ok (.istore 8, 2) := by decide +kernel
theorem d_tb_withPort_103 : decode prog_1_method_32_code 103 = .ok (.iload 8, 2) := by decide +kernel
theorem d_tb_withPort_105 : decode prog_1_method_32_code 105 = .ok (.iload 7, 2) := by decide +kernel
theorem d_tb_withPort_107 : decode prog_1_method_32_code 107 = .ok (.if_icmp .ge 54, 3) := by decide +kernel
theorem d_tb_withPort_110 : decode prog_1_method_32_code 110 = .ok (.aload 6, 2) := by decide +kernel
theorem d_tb_withPort_112 : decode prog_1_method_32_code 112 = .ok (.iload 8, 2) := by decide +kernel
theorem d_tb_withPort_114 : decode prog_1_method_32_code 114 = .ok (.iaload, 1) := by decide +kernel
theorem d_tb_withPort_115 : decode prog_1_method_32_code 115 = .ok (.istore 9, 2) := by decide +kernel
theorem d_tb_withPort_117 : decode prog_1_method_32_code 117 = .ok (.lload 4, 2) := by decide +kernel
theorem d_tb_withPort_119 : decode prog_1_method_32_code 119 = .ok (.aload_n 0, 1) := by decide +kernel
theorem d_tb_withPort_120 : decode prog_1_method_32_code 120 = .ok (.getfield 19, 3) := by decide +kernel
theorem d_tb_withPort_123 : decode prog_1_method_32_code 123 = .ok (.getfield 68, 3) := by decide +kernel
theorem d_tb_withPort_126 : decode prog_1_method_32_code 126 = .ok (.iload_n 3, 1) := by decide +kernel
theorem d_tb_withPort_127 : decode prog_1_method_32_code 127 = .ok (.aaload, 1) := by decide +kernel
theorem d_tb_withPort_128 : decode prog_1_method_32_code 128 = .ok (.iload 9, 2) := by decide +kernel
theorem d_tb_withPort_130 : decode prog_1_method_32_code 130 = .ok (.invokevirtual 118, 3) := by decide +kernel
theorem d_tb_withPort_133 : decode prog_1_method_32_code 133 = .ok (.invokestatic 179, 3) := by decide +kernel
theorem d_tb_withPort_136 : decode prog_1_method_32_code 136 = .ok (.lstore 4, 2) := by decide +kernel
theorem d_tb_withPort_138 : decode prog_1_method_32_code 138 = .ok (.lload 4, 2) := by decide +kernel
theorem d_tb_withPort_140 : decode prog_1_method_32_code 140 = .ok (.aload_n 0, 1) := by decide +kernel
theorem d_tb_withPort_141 : decode prog_1_method_32_code 141 = .ok (.getfield 19, 3) := by decide +kernel
theorem d_tb_withPort_144 : decode prog_1_method_32_code 144 = .ok (.iload_n 3, 1) := by decide +kernel
theorem d_tb_withPort_145 : decode prog_1_method_32_code 145 = .ok (.iload 9, 2) := by decide +kernel
theorem d_tb_withPort_147 : decode prog_1_method_32_code 147 = .ok (.invokevirtual 121, 3) := by decide +kernel
theorem d_tb_withPort_150 : decode prog_1_method_32_code 150 = .ok (.invokestatic 179, 3) := by decide +kernel
theorem d_tb_withPort_153 : decode prog_1_method_32_code 153 = .ok (.lstore 4, 2) := by decide +kernel
theorem d_tb_withPort_155 : decode prog_1_method_32_code 155 = .ok (.iinc 8 1, 3) := by decide +kernel
theorem d_tb_withPort_158 : decode prog_1_method_32_code 158 = .ok (.goto (-55), 3) := by decide +kernel
theorem d_tb_withPort_161 : decode prog_1_method_32_code 161 = .ok (.lload 4, 2) := by decide +kernel
theorem d_tb_withPort_163 : decode prog_1_method_32_code 163 = .ok (.lreturn, 1) := by decide +kernel
theorem d_tb_with_0 : decode prog_1_method_33_code 0 = .ok (.ldc2_w 195, 3) := by decide +kernel
theorem d_tb_with_3 : decode prog_1_method_33_code 3 = .ok (.lload_n 0, 1) := by decide +kernel
theorem d_tb_with_4 : decode prog_1_method_33_code 4 = .ok (.lmul, 1) := by decide +kernel
theorem d_tb_with_5 : decode prog_1_method_33_code 5 = .ok (.iload_n 2, 1) := by decide +kernel
theorem d_tb_with_6 : decode prog_1_method_33_code 6 = .ok (.i2l, 1) := by decide +kernel
theorem d_tb_with_7 : decode prog_1_method_33_code 7 = .ok (.ladd, 1) := by decide +kernel
theorem d_tb_with_8 : decode prog_1_method_33_code 8 = .ok (.lreturn, 1) := by decide +kernel
theorem d_tb_within_0 : decode prog_1_method_34_code 0 = .ok (.iload_n 0, 1) := by decide +kernel
theorem d_tb_within_1 : decode prog_1_method_34_code 1 = .ok (.iload_n 1, 1) := by decide +kernel
theorem d_tb_within_2 : decode prog_1_method_34_code 2 = .ok (.if_icmp .lt 12, 3) := by decide +kernel
theorem d_tb_within_5 : decode prog_1_method_34_code 5 = .ok (.iload_n 0, 1) := by decide +kernel
theorem d_tb_within_6 : decode prog_1_method_34_code 6 = .ok (.iload_n 2, 1) := by decide +kernel
theorem d_tb_within_7 : decode prog_1_method_34_code 7 = .ok (.if_icmp .gt 7, 3) := by decide +kernel
theorem d_tb_within_10 : decode prog_1_method_34_code 10 = .ok (.iconst 1, 1) := by decide +kernel
theorem d_tb_within_11 : decode prog_1_method_34_code 11 = .ok (.goto 4, 3) := by decide +kernel
theorem d_tb_within_14 : decode prog_1_method_34_code 14 = .ok (.iconst 0, 1) := by decide +kernel
theorem d_tb_within_15 : decode prog_1_method_34_code 15 = .ok (.ireturn, 1) := by decide +kernel
theorem d_tb_roundAt_0 : decode prog_1_method_35_code 0 = .ok (.iload_n 0, 1) := by decide +kernel
theorem d_tb_roundAt_1 : decode prog_1_method_35_code 1 = .ok (.bipush 63, 2) := by decide +kernel
theorem d_tb_roundAt_3 : decode prog_1_method_35_code 3 = .ok (.iand, 1) := by decide +kernel
theorem d_tb_roundAt_4 : decode prog_1_method_35_code 4 = .ok (.istore_n 1, 1) := by decide +kernel
theorem d_tb_roundAt_5 : decode prog_1_method_35_code 5 = .ok (.iload_n 1, 1) := by decide +kernel
theorem d_tb_roundAt_6 : decode prog_1_method_35_code 6 = .ok (.bipush 32, 2) := by decide +kernel
theorem d_tb_roundAt_8 : decode prog_1_method_35_code 8 = .ok (.if_icmp .le 8, 3) := by decide +kernel
theorem d_tb_roundAt_11 : decode prog_1_method_35_code 11 = .ok (.bipush 64, 2) := by decide +kernel
theorem d_tb_roundAt_13 : decode prog_1_method_35_code 13 = .ok (.iload_n 1, 1) := by decide +kernel
theorem d_tb_roundAt_14 : decode prog_1_method_35_code 14 = .ok (.isub, 1) := by decide +kernel
theorem d_tb_roundAt_15 : decode prog_1_method_35_code 15 = .ok (.istore_n 1, 1) := by decide +kernel
theorem d_tb_roundAt_16 : decode prog_1_method_35_code 16 = .ok (.iload_n 1, 1) := by decide +kernel
theorem d_tb_roundAt_17 : decode prog_1_method_35_code 17 = .ok (.bipush 16, 2) := by decide +kernel
theorem d_tb_roundAt_19 : decode prog_1_method_35_code 19 = .ok (.if_icmp .le 15, 3) := by decide +kernel
theorem d_tb_roundAt_22 : decode prog_1_method_35_code 22 = .ok (.getstatic 197, 3) := by decide +kernel
theorem d_tb_roundAt_25 : decode prog_1_method_35_code 25 = .ok (.bipush 32, 2) := by decide +kernel
theorem d_tb_roundAt_27 : decode prog_1_method_35_code 27 = .ok (.iload_n 1, 1) := by decide +kernel
theorem d_tb_roundAt_28 : decode prog_1_method_35_code 28 = .ok (.isub, 1) := by decide +kernel
theorem d_tb_roundAt_29 : decode prog_1_method_35_code 29 = .ok (.iaload, 1) := by decide +kernel
theorem d_tb_roundAt_30 : decode prog_1_method_35_code 30 = .ok (.ineg, 1) := by decide +kernel
theorem d_tb_roundAt_31 : decode prog_1_method_35_code 31 = .ok (.goto 8, 3) := by decide +kernel
theorem d_tb_roundAt_34 : decode prog_1_method_35_code 34 = .ok (.getstatic 197, 3) := by decide +kernel
theorem d_tb_roundAt_37 : decode prog_1_method_35_code 37 = .ok (.iload_n 1, 1) := by decide +kernel
theorem d_tb_roundAt_38 : decode prog_1_method_35_code 38 = .ok (.iaload, 1) := by decide +kernel
theorem d_tb_roundAt_39 : decode prog_1_method_35_code 39 = .ok (.ireturn, 1) := by decide +kernel
theorem d_tb_nextToAsk_0 : decode prog_1_method_36_code 0 = .ok (.iload_n 0, 1) := by decide +kernel
theorem d_tb_nextToAsk_1 : decode prog_1_method_36_code 1 = .ok (.ifCond .ne 7, 3) := by decide +kernel
theorem d_tb_nextToAsk_4 : decode prog_1_method_36_code 4 = .ok (.sipush (-10001), 3) := by decide +kernel
theorem d_tb_nextToAsk_7 : decode prog_1_method_36_code 7 = .ok (.ireturn, 1) := by decide +kernel
theorem d_tb_nextToAsk_8 : decode prog_1_method_36_code 8 = .ok (.iconst 0, 1) := by decide +kernel
theorem d_tb_nextToAsk_9 : decode prog_1_method_36_code 9 = .ok (.istore_n 1, 1) := by decide +kernel
theorem d_tb_nextToAsk_10 : decode prog_1_method_36_code 10 = .ok (.iconst 1, 1) := by decide +kernel
theorem d_tb_nextToAsk_11 : decode prog_1_method_36_code 11 = .ok (.istore_n 2, 1) := by decide +kernel
theorem d_tb_nextToAsk_12 : decode prog_1_method_36_code 12 = .ok (.iload_n 2, 1) := by decide +kernel
theorem d_tb_nextToAsk_13 : decode prog_1_method_36_code 13 = .ok (.getstatic 152, 3) := by decide +kernel
theorem d_tb_nextToAsk_16 : decode prog_1_method_36_code 16 = .ok (.arraylength, 1) := by decide +kernel
theorem d_tb_nextToAsk_17 : decode prog_1_method_36_code 17 = .ok (.if_icmp .ge 32, 3) := by decide +kernel
theorem d_tb_nextToAsk_20 : decode prog_1_method_36_code 20 = .ok (.iload_n 0, 1) := by decide +kernel
theorem d_tb_nextToAsk_21 : decode prog_1_method_36_code 21 = .ok (.getstatic 152, 3) := by decide +kernel
theorem d_tb_nextToAsk_24 : decode prog_1_method_36_code 24 = .ok (.iload_n 2, 1) := by decide +kernel
theorem d_tb_nextToAsk_25 : decode prog_1_method_36_code 25 = .ok (.iaload, 1) := by decide +kernel
theorem d_tb_nextToAsk_26 : decode prog_1_method_36_code 26 = .ok (.invokestatic 200, 3) := by decide +kernel
theorem d_tb_nextToAsk_29 : decode prog_1_method_36_code 29 = .ok (.iload_n 0, 1) := by decide +kernel
theorem d_tb_nextToAsk_30 : decode prog_1_method_36_code 30 = .ok (.getstatic 152, 3) := by decide +kernel
theorem d_tb_nextToAsk_33 : decode prog_1_method_36_code 33 = .ok (.iload_n 1, 1) := by decide +kernel
theorem d_tb_nextToAsk_34 : decode prog_1_method_36_code 34 = .ok (.iaload, 1) := by decide +kernel
theorem d_tb_nextToAsk_35 : decode prog_1_method_36_code 35 = .ok (.invokestatic 200, 3) := by decide +kernel
theorem d_tb_nextToAsk_38 : decode prog_1_method_36_code 38 = .ok (.if_icmp .ge 5, 3) := by decide +kernel
theorem d_tb_nextToAsk_41 : decode prog_1_method_36_code 41 = .ok (.iload_n 2, 1) := by decide +kernel
theorem d_tb_nextToAsk_42 : decode prog_1_method_36_code 42 = .ok (.istore_n 1, 1) := by decide +kernel
theorem d_tb_nextToAsk_43 : decode prog_1_method_36_code 43 = .ok (.iinc 2 1, 3) := by decide +kernel
theorem d_tb_nextToAsk_46 : decode prog_1_method_36_code 46 = .ok (.goto (-34), 3) := by decide +kernel
theorem d_tb_nextToAsk_49 : decode prog_1_method_36_code 49 = .ok (.iload_n 1, 1) := by decide +kernel
theorem d_tb_nextToAsk_50 : decode prog_1_method_36_code 50 = .ok (.ireturn, 1) := by decide +kernel
theorem d_tb_leftAtWorst_0 : decode prog_1_method_37_code 0 = .ok (.iload_n 0, 1) := by decide +kernel
theorem d_tb_leftAtWorst_1 : decode prog_1_method_37_code 1 = .ok (.iload_n 1, 1) := by decide +kernel
theorem d_tb_leftAtWorst_2 : decode prog_1_method_37_code 2 = .ok (.iand, 1) := by decide +kernel
theorem d_tb_leftAtWorst_3 : decode prog_1_method_37_code 3 = .ok (.invokestatic 203, 3) := by decide +kernel
theorem d_tb_leftAtWorst_6 : decode prog_1_method_37_code 6 = .ok (.iload_n 0, 1) := by decide +kernel
theorem d_tb_leftAtWorst_7 : decode prog_1_method_37_code 7 = .ok (.iload_n 1, 1) := by decide +kernel
theorem d_tb_leftAtWorst_8 : decode prog_1_method_37_code 8 = .ok (.iconst (-1), 1) := by decide +kernel
theorem d_tb_leftAtWorst_9 : decode prog_1_method_37_code 9 = .ok (.ixor, 1) := by decide +kernel
theorem d_tb_leftAtWorst_10 : decode prog_1_method_37_code 10 = .ok (.iand, 1) := by decide +kernel
theorem d_tb_leftAtWorst_11 : decode prog_1_method_37_code 11 = .ok (.invokestatic 203, 3) := by decide +kernel
theorem d_tb_leftAtWorst_14 : decode prog_1_method_37_code 14 = .ok (.invokestatic 208, 3) := by decide +kernel
theorem d_tb_leftAtWorst_17 : decode prog_1_method_37_code 17 = .ok (.ireturn, 1) := by decide +kernel
theorem d_tb_nextSeed_0 : decode prog_1_method_38_code 0 = .ok (.ldc 213, 2) := by decide +kernel
theorem d_tb_nextSeed_2 : decode prog_1_method_38_code 2 = .ok (.iload_n 0, 1) := by decide +kernel
theorem d_tb_nextSeed_3 : decode prog_1_method_38_code 3 = .ok (.imul, 1) := by decide +kernel
theorem d_tb_nextSeed_4 : decode prog_1_method_38_code 4 = .ok (.sipush 12345, 3) := by decide +kernel
theorem d_tb_nextSeed_7 : decode prog_1_method_38_code 7 = .ok (.iadd, 1) := by decide +kernel
theorem d_tb_nextSeed_8 : decode prog_1_method_38_code 8 = .ok (.ldc 214, 2) := by decide +kernel
theorem d_tb_nextSeed_10 : decode prog_1_method_38_code 10 = .ok (.iand, 1) := by decide +kernel
theorem d_tb_nextSeed_11 : decode prog_1_method_38_code 11 = .ok (.ireturn, 1) := by decide +kernel
theorem d_tb_placeOfTide_0 : decode prog_1_method_39_code 0 = .ok (.iconst 0, 1) := by decide +kernel
theorem d_tb_placeOfTide_1 : decode prog_1_method_39_code 1 = .ok (.istore_n 2, 1) := by decide +kernel
theorem d_tb_placeOfTide_2 : decode prog_1_method_39_code 2 = .ok (.iconst 1, 1) := by decide +kernel
theorem d_tb_placeOfTide_3 : decode prog_1_method_39_code 3 = .ok (.istore_n 3, 1) := by decide +kernel
theorem d_tb_placeOfTide_4 : decode prog_1_method_39_code 4 = .ok (.iload_n 3, 1) := by decide +kernel
theorem d_tb_placeOfTide_5 : decode prog_1_method_39_code 5 = .ok (.sipush 144, 3) := by decide +kernel
theorem d_tb_placeOfTide_8 : decode prog_1_method_39_code 8 = .ok (.if_icmp .gt 27, 3) := by decide +kernel
theorem d_tb_placeOfTide_11 : decode prog_1_method_39_code 11 = .ok (.aload_n 0, 1) := by decide +kernel
theorem d_tb_placeOfTide_12 : decode prog_1_method_39_code 12 = .ok (.iload_n 3, 1) := by decide +kernel
theorem d_tb_placeOfTide_13 : decode prog_1_method_39_code 13 = .ok (.invokevirtual 132, 3) := by decide +kernel
theorem d_tb_placeOfTide_16 : decode prog_1_method_39_code 16 = .ok (.ifCond .eq 13, 3) := by decide +kernel
theorem d_tb_placeOfTide_19 : decode prog_1_method_39_code 19 = .ok (.iload_n 2, 1) := by decide +kernel
theorem d_tb_placeOfTide_20 : decode prog_1_method_39_code 20 = .ok (.iload_n 1, 1) := by decide +kernel
theorem d_tb_placeOfTide_21 : decode prog_1_method_39_code 21 = .ok (.if_icmp .ne 5, 3) := by decide +kernel
theorem d_tb_placeOfTide_24 : decode prog_1_method_39_code 24 = .ok (.iload_n 3, 1) := by decide +kernel
theorem d_tb_placeOfTide_25 : decode prog_1_method_39_code 25 = .ok (.ireturn, 1) := by decide +kernel
theorem d_tb_placeOfTide_26 : decode prog_1_method_39_code 26 = .ok (.iinc 2 1, 3) := by decide +kernel
theorem d_tb_placeOfTide_29 : decode prog_1_method_39_code 29 = .ok (.iinc 3 1, 3) := by decide +kernel
theorem d_tb_placeOfTide_32 : decode prog_1_method_39_code 32 = .ok (.goto (-28), 3) := by decide +kernel
theorem d_tb_placeOfTide_35 : decode prog_1_method_39_code 35 = .ok (.sipush (-10001), 3) := by decide +kernel
theorem d_tb_placeOfTide_38 : decode prog_1_method_39_code 38 = .ok (.ireturn, 1) := by decide +kernel
theorem d_tb_turnAt_0 : decode prog_1_method_40_code 0 = .ok (.iload_n 1, 1) := by decide +kernel
theorem d_tb_turnAt_1 : decode prog_1_method_40_code 1 = .ok (.iconst 1, 1) := by decide +kernel
theorem d_tb_turnAt_2 : decode prog_1_method_40_code 2 = .ok (.sipush 144, 3) := by decide +kernel
theorem d_tb_turnAt_5 : decode prog_1_method_40_code 5 = .ok (.invokestatic 33, 3) := by decide +kernel
theorem d_tb_turnAt_8 : decode prog_1_method_40_code 8 = .ok (.ifCond .eq 20, 3) := by decide +kernel
theorem d_tb_turnAt_11 : decode prog_1_method_40_code 11 = .ok (.aload_n 0, 1) := by decide +kernel
theorem d_tb_turnAt_12 : decode prog_1_method_40_code 12 = .ok (.getfield 26, 3) := by decide +kernel
theorem d_tb_turnAt_15 : decode prog_1_method_40_code 15 = .ok (.iload_n 1, 1) := by decide +kernel
theorem d_tb_turnAt_16 : decode prog_1_method_40_code 16 = .ok (.iaload, 1) := by decide +kernel
theorem d_tb_turnAt_17 : decode prog_1_method_40_code 17 = .ok (.aload_n 0, 1) := by decide +kernel
theorem d_tb_turnAt_18 : decode prog_1_method_40_code 18 = .ok (.getfield 26, 3) := by decide +kernel
theorem d_tb_turnAt_21 : decode prog_1_method_40_code 21 = .ok (.iload_n 1, 1) := by decide +kernel
theorem d_tb_turnAt_22 : decode prog_1_method_40_code 22 = .ok (.iconst 1, 1) := by decide +kernel
theorem d_tb_turnAt_23 : decode prog_1_method_40_code 23 = .ok (.isub, 1) := by decide +kernel
theorem d_tb_turnAt_24 : decode prog_1_method_40_code 24 = .ok (.iaload, 1) := by decide +kernel
theorem d_tb_turnAt_25 : decode prog_1_method_40_code 25 = .ok (.if_icmp .ne 5, 3) := by decide +kernel
theorem d_tb_turnAt_28 : decode prog_1_method_40_code 28 = .ok (.iconst 0, 1) := by decide +kernel
theorem d_tb_turnAt_29 : decode prog_1_method_40_code 29 = .ok (.ireturn, 1) := by decide +kernel
theorem d_tb_turnAt_30 : decode prog_1_method_40_code 30 = .ok (.iload_n 1, 1) := by decide +kernel
theorem d_tb_turnAt_31 : decode prog_1_method_40_code 31 = .ok (.iconst 1, 1) := by decide +kernel
theorem d_tb_turnAt_32 : decode prog_1_method_40_code 32 = .ok (.iadd, 1) := by decide +kernel
theorem d_tb_turnAt_33 : decode prog_1_method_40_code 33 = .ok (.istore_n 2, 1) := by decide +kernel
theorem d_tb_turnAt_34 : decode prog_1_method_40_code 34 = .ok (.iload_n 2, 1) := by decide +kernel
theorem d_tb_turnAt_35 : decode prog_1_method_40_code 35 = .ok (.iload_n 1, 1) := by decide +kernel
theorem d_tb_turnAt_36 : decode prog_1_method_40_code 36 = .ok (.sipush 144, 3) := by decide +kernel
theorem d_tb_turnAt_39 : decode prog_1_method_40_code 39 = .ok (.iadd, 1) := by decide +kernel
theorem d_tb_turnAt_40 : decode prog_1_method_40_code 40 = .ok (.if_icmp .ge 24, 3) := by decide +kernel
theorem d_tb_turnAt_43 : decode prog_1_method_40_code 43 = .ok (.aload_n 0, 1) := by decide +kernel
theorem d_tb_turnAt_44 : decode prog_1_method_40_code 44 = .ok (.getfield 26, 3) := by decide +kernel
theorem d_tb_turnAt_47 : decode prog_1_method_40_code 47 = .ok (.iload_n 2, 1) := by decide +kernel
theorem d_tb_turnAt_48 : decode prog_1_method_40_code 48 = .ok (.iaload, 1) := by decide +kernel
theorem d_tb_turnAt_49 : decode prog_1_method_40_code 49 = .ok (.aload_n 0, 1) := by decide +kernel
theorem d_tb_turnAt_50 : decode prog_1_method_40_code 50 = .ok (.getfield 26, 3) := by decide +kernel
theorem d_tb_turnAt_53 : decode prog_1_method_40_code 53 = .ok (.iload_n 1, 1) := by decide +kernel
theorem d_tb_turnAt_54 : decode prog_1_method_40_code 54 = .ok (.iaload, 1) := by decide +kernel
theorem d_tb_turnAt_55 : decode prog_1_method_40_code 55 = .ok (.if_icmp .ne 9, 3) := by decide +kernel
theorem d_tb_turnAt_58 : decode prog_1_method_40_code 58 = .ok (.iinc 2 1, 3) := by decide +kernel
theorem d_tb_turnAt_61 : decode prog_1_method_40_code 61 = .ok (.goto (-27), 3) := by decide +kernel
theorem d_tb_turnAt_64 : decode prog_1_method_40_code 64 = .ok (.aload_n 0, 1) := by decide +kernel
theorem d_tb_turnAt_65 : decode prog_1_method_40_code 65 = .ok (.getfield 26, 3) := by decide +kernel
theorem d_tb_turnAt_68 : decode prog_1_method_40_code 68 = .ok (.iload_n 1, 1) := by decide +kernel
theorem d_tb_turnAt_69 : decode prog_1_method_40_code 69 = .ok (.iaload, 1) := by decide +kernel
theorem d_tb_turnAt_70 : decode prog_1_method_40_code 70 = .ok (.aload_n 0, 1) := by decide +kernel
theorem d_tb_turnAt_71 : decode prog_1_method_40_code 71 = .ok (.getfield 26, 3) := by decide +kernel
theorem d_tb_turnAt_74 : decode prog_1_method_40_code 74 = .ok (.iload_n 1, 1) := by decide +kernel
theorem d_tb_turnAt_75 : decode prog_1_method_40_code 75 = .ok (.iconst 1, 1) := by decide +kernel
theorem d_tb_turnAt_76 : decode prog_1_method_40_code 76 = .ok (.isub, 1) := by decide +kernel
theorem d_tb_turnAt_77 : decode prog_1_method_40_code 77 = .ok (.iaload, 1) := by decide +kernel
theorem d_tb_turnAt_78 : decode prog_1_method_40_code 78 = .ok (.invokestatic 215, 3) := by decide +kernel
theorem d_tb_turnAt_81 : decode prog_1_method_40_code 81 = .ok (.istore_n 3, 1) := by decide +kernel
theorem d_tb_turnAt_82 : decode prog_1_method_40_code 82 = .ok (.aload_n 0, 1) := by decide +kernel
theorem d_tb_turnAt_83 : decode prog_1_method_40_code 83 = .ok (.getfield 26, 3) := by decide +kernel
theorem d_tb_turnAt_86 : decode prog_1_method_40_code 86 = .ok (.iload_n 2, 1) := by decide +kernel
theorem d_tb_turnAt_87 : decode prog_1_method_40_code 87 = .ok (.iaload, 1) := by decide +kernel
theorem d_tb_turnAt_88 : decode prog_1_method_40_code 88 = .ok (.aload_n 0, 1) := by decide +kernel
theorem d_tb_turnAt_89 : decode prog_1_method_40_code 89 = .ok (.getfield 26, 3) := by decide +kernel
theorem d_tb_turnAt_92 : decode prog_1_method_40_code 92 = .ok (.iload_n 1, 1) := by decide +kernel
theorem d_tb_turnAt_93 : decode prog_1_method_40_code 93 = .ok (.iaload, 1) := by decide +kernel
theorem d_tb_turnAt_94 : decode prog_1_method_40_code 94 = .ok (.invokestatic 215, 3) := by decide +kernel
theorem d_tb_turnAt_97 : decode prog_1_method_40_code 97 = .ok (.istore 4, 2) := by decide +kernel
theorem d_tb_turnAt_99 : decode prog_1_method_40_code 99 = .ok (.iload_n 3, 1) := by decide +kernel
theorem d_tb_turnAt_100 : decode prog_1_method_40_code 100 = .ok (.iload 4, 2) := by decide +kernel
theorem d_tb_turnAt_102 : decode prog_1_method_40_code 102 = .ok (.ineg, 1) := by decide +kernel
theorem d_tb_turnAt_103 : decode prog_1_method_40_code 103 = .ok (.if_icmp .ne 7, 3) := by decide +kernel
theorem d_tb_turnAt_106 : decode prog_1_method_40_code 106 = .ok (.iload_n 3, 1) := by decide +kernel
theorem d_tb_turnAt_107 : decode prog_1_method_40_code 107 = .ok (.goto 4, 3) := by decide +kernel
theorem d_tb_turnAt_110 : decode prog_1_method_40_code 110 = .ok (.iconst 0, 1) := by decide +kernel
theorem d_tb_turnAt_111 : decode prog_1_method_40_code 111 = .ok (.ireturn, 1) := by decide +kernel
theorem d_tb_firstOfGate_0 : decode prog_1_method_41_code 0 = .ok (.iconst 0, 1) := by decide +kernel
theorem d_tb_firstOfGate_1 : decode prog_1_method_41_code 1 = .ok (.istore_n 3, 1) := by decide +kernel
theorem d_tb_firstOfGate_2 : decode prog_1_method_41_code 2 = .ok (.iconst 0, 1) := by decide +kernel
theorem d_tb_firstOfGate_3 : decode prog_1_method_41_code 3 = .ok (.istore 4, 2) := by decide +kernel
theorem d_tb_firstOfGate_5 : decode prog_1_method_41_code 5 = .ok (.iload 4, 2) := by decide +kernel
theorem d_tb_firstOfGate_7 : decode prog_1_method_41_code 7 = .ok (.sipush 144, 3) := by decide +kernel
theorem d_tb_firstOfGate_10 : decode prog_1_method_41_code 10 = .ok (.if_icmp .ge 49, 3) := by decide +kernel
theorem d_tb_firstOfGate_13 : decode prog_1_method_41_code 13 = .ok (.aload_n 0, 1) := by decide +kernel
theorem d_tb_firstOfGate_14 : decode prog_1_method_41_code 14 = .ok (.getfield 26, 3) := by decide +kernel
theorem d_tb_firstOfGate_17 : decode prog_1_method_41_code 17 = .ok (.iload 4, 2) := by decide +kernel
theorem d_tb_firstOfGate_19 : decode prog_1_method_41_code 19 = .ok (.iaload, 1) := by decide +kernel
theorem d_tb_firstOfGate_20 : decode prog_1_method_41_code 20 = .ok (.iload_n 1, 1) := by decide +kernel
theorem d_tb_firstOfGate_21 : decode prog_1_method_41_code 21 = .ok (.if_icmp .lt 32, 3) := by decide +kernel
theorem d_tb_firstOfGate_24 : decode prog_1_method_41_code 24 = .ok (.iload 4, 2) := by decide +kernel
theorem d_tb_firstOfGate_26 : decode prog_1_method_41_code 26 = .ok (.ifCond .eq 16, 3) := by decide +kernel
theorem d_tb_firstOfGate_29 : decode prog_1_method_41_code 29 = .ok (.aload_n 0, 1) := by decide +kernel
theorem d_tb_firstOfGate_30 : decode prog_1_method_41_code 30 = .ok (.getfield 26, 3) := by decide +kernel
theorem d_tb_firstOfGate_33 : decode prog_1_method_41_code 33 = .ok (.iload 4, 2) := by decide +kernel
theorem d_tb_firstOfGate_35 : decode prog_1_method_41_code 35 = .ok (.iconst 1, 1) := by decide +kernel
theorem d_tb_firstOfGate_36 : decode prog_1_method_41_code 36 = .ok (.isub, 1) := by decide +kernel
theorem d_tb_firstOfGate_37 : decode prog_1_method_41_code 37 = .ok (.iaload, 1) := by decide +kernel
theorem d_tb_firstOfGate_38 : decode prog_1_method_41_code 38 = .ok (.iload_n 1, 1) := by decide +kernel
theorem d_tb_firstOfGate_39 : decode prog_1_method_41_code 39 = .ok (.if_icmp .ge 14, 3) := by decide +kernel
theorem d_tb_firstOfGate_42 : decode prog_1_method_41_code 42 = .ok (.iload_n 3, 1) := by decide +kernel
theorem d_tb_firstOfGate_43 : decode prog_1_method_41_code 43 = .ok (.iload_n 2, 1) := by decide +kernel
theorem d_tb_firstOfGate_44 : decode prog_1_method_41_code 44 = .ok (.if_icmp .ne 6, 3) := by decide +kernel
theorem d_tb_firstOfGate_47 : decode prog_1_method_41_code 47 = .ok (.iload 4, 2) := by decide +kernel
theorem d_tb_firstOfGate_49 : decode prog_1_method_41_code 49 = .ok (.ireturn, 1) := by decide +kernel
theorem d_tb_firstOfGate_50 : decode prog_1_method_41_code 50 = .ok (.iinc 3 1, 3) := by decide +kernel
theorem d_tb_firstOfGate_53 : decode prog_1_method_41_code 53 = .ok (.iinc 4 1, 3) := by decide +kernel
theorem d_tb_firstOfGate_56 : decode prog_1_method_41_code 56 = .ok (.goto (-51), 3) := by decide +kernel
theorem d_tb_firstOfGate_59 : decode prog_1_method_41_code 59 = .ok (.sipush (-10001), 3) := by decide +kernel
theorem d_tb_firstOfGate_62 : decode prog_1_method_41_code 62 = .ok (.ireturn, 1) := by decide +kernel
theorem d_tb_lastOfGate_0 : decode prog_1_method_42_code 0 = .ok (.iload_n 2, 1) := by decide +kernel
theorem d_tb_lastOfGate_1 : decode prog_1_method_42_code 1 = .ok (.istore_n 3, 1) := by decide +kernel
theorem d_tb_lastOfGate_2 : decode prog_1_method_42_code 2 = .ok (.iload_n 3, 1) := by decide +kernel
theorem d_tb_lastOfGate_3 : decode prog_1_method_42_code 3 = .ok (.iconst 1, 1) := by decide +kernel
theorem d_tb_lastOfGate_4 : decode prog_1_method_42_code 4 = .ok (.iadd, 1) := by decide +kernel
theorem d_tb_lastOfGate_5 : decode prog_1_method_42_code 5 = .ok (.sipush 144, 3) := by decide +kernel
theorem d_tb_lastOfGate_8 : decode prog_1_method_42_code 8 = .ok (.if_icmp .ge 21, 3) := by decide +kernel
theorem d_tb_lastOfGate_11 : decode prog_1_method_42_code 11 = .ok (.aload_n 0, 1) := by decide +kernel
theorem d_tb_lastOfGate_12 : decode prog_1_method_42_code 12 = .ok (.getfield 26, 3) := by decide +kernel
theorem d_tb_lastOfGate_15 : decode prog_1_method_42_code 15 = .ok (.iload_n 3, 1) := by decide +kernel
theorem d_tb_lastOfGate_16 : decode prog_1_method_42_code 16 = .ok (.iconst 1, 1) := by decide +kernel
theorem d_tb_lastOfGate_17 : decode prog_1_method_42_code 17 = .ok (.iadd, 1) := by decide +kernel
theorem d_tb_lastOfGate_18 : decode prog_1_method_42_code 18 = .ok (.iaload, 1) := by decide +kernel
theorem d_tb_lastOfGate_19 : decode prog_1_method_42_code 19 = .ok (.iload_n 1, 1) := by decide +kernel
theorem d_tb_lastOfGate_20 : decode prog_1_method_42_code 20 = .ok (.if_icmp .lt 9, 3) := by decide +kernel
theorem d_tb_lastOfGate_23 : decode prog_1_method_42_code 23 = .ok (.iinc 3 1, 3) := by decide +kernel
theorem d_tb_lastOfGate_26 : decode prog_1_method_42_code 26 = .ok (.goto (-24), 3) := by decide +kernel
theorem d_tb_lastOfGate_29 : decode prog_1_method_42_code 29 = .ok (.iload_n 3, 1) := by decide +kernel
theorem d_tb_lastOfGate_30 : decode prog_1_method_42_code 30 = .ok (.ireturn, 1) := by decide +kernel
theorem d_tb_tripFrom_0 : decode prog_1_method_43_code 0 = .ok (.iconst 0, 1) := by decide +kernel
theorem d_tb_tripFrom_1 : decode prog_1_method_43_code 1 = .ok (.istore_n 3, 1) := by decide +kernel
theorem d_tb_tripFrom_2 : decode prog_1_method_43_code 2 = .ok (.iconst 1, 1) := by decide +kernel
theorem d_tb_tripFrom_3 : decode prog_1_method_43_code 3 = .ok (.istore 4, 2) := by decide +kernel
theorem d_tb_tripFrom_5 : decode prog_1_method_43_code 5 = .ok (.iload 4, 2) := by decide +kernel
theorem d_tb_tripFrom_7 : decode prog_1_method_43_code 7 = .ok (.sipush 200, 3) := by decide +kernel
theorem d_tb_tripFrom_10 : decode prog_1_method_43_code 10 = .ok (.if_icmp .gt 56, 3) := by decide +kernel
theorem d_tb_tripFrom_13 : decode prog_1_method_43_code 13 = .ok (.iload_n 1, 1) := by decide +kernel
theorem d_tb_tripFrom_14 : decode prog_1_method_43_code 14 = .ok (.iload 4, 2) := by decide +kernel
theorem d_tb_tripFrom_16 : decode prog_1_method_43_code 16 = .ok (.iadd, 1) := by decide +kernel
theorem d_tb_tripFrom_17 : decode prog_1_method_43_code 17 = .ok (.iconst 1, 1) := by decide +kernel
theorem d_tb_tripFrom_18 : decode prog_1_method_43_code 18 = .ok (.isub, 1) := by decide +kernel
theorem d_tb_tripFrom_19 : decode prog_1_method_43_code 19 = .ok (.istore 5, 2) := by decide +kernel
theorem d_tb_tripFrom_21 : decode prog_1_method_43_code 21 = .ok (.iload_n 3, 1) := by decide +kernel
theorem d_tb_tripFrom_22 : decode prog_1_method_43_code 22 = .ok (.iconst 0, 1) := by decide +kernel
theorem d_tb_tripFrom_23 : decode prog_1_method_43_code 23 = .ok (.iload_n 2, 1) := by decide +kernel
theorem d_tb_tripFrom_24 : decode prog_1_method_43_code 24 = .ok (.aload_n 0, 1) := by decide +kernel
theorem d_tb_tripFrom_25 : decode prog_1_method_43_code 25 = .ok (.getfield 26, 3) := by decide +kernel
theorem d_tb_tripFrom_28 : decode prog_1_method_43_code 28 = .ok (.iload 5, 2) := by decide +kernel
theorem d_tb_tripFrom_30 : decode prog_1_method_43_code 30 = .ok (.iaload, 1) := by decide +kernel
theorem d_tb_tripFrom_31 : decode prog_1_method_43_code 31 = .ok (.aload_n 0, 1) := by decide +kernel
theorem d_tb_tripFrom_32 : decode prog_1_method_43_code 32 = .ok (.getfield 30, 3) := by decide +kernel
theorem d_tb_tripFrom_35 : decode prog_1_method_43_code 35 = .ok (.iload 5, 2) := by decide +kernel
theorem d_tb_tripFrom_37 : decode prog_1_method_43_code 37 = .ok (.iaload, 1) := by decide +kernel
theorem d_tb_tripFrom_38 : decode prog_1_method_43_code 38 = .ok (.isub, 1) := by decide +kernel
theorem d_tb_tripFrom_39 : decode prog_1_method_43_code 39 = .ok (.bipush 20, 2) := by decide +kernel
theorem d_tb_tripFrom_41 : decode prog_1_method_43_code 41 = .ok (.invokestatic 218, 3) := by decide +kernel
theorem d_tb_tripFrom_44 : decode prog_1_method_43_code 44 = .ok (.iadd, 1) := by decide +kernel
theorem d_tb_tripFrom_45 : decode prog_1_method_43_code 45 = .ok (.invokestatic 208, 3) := by decide +kernel
theorem d_tb_tripFrom_48 : decode prog_1_method_43_code 48 = .ok (.iadd, 1) := by decide +kernel
theorem d_tb_tripFrom_49 : decode prog_1_method_43_code 49 = .ok (.istore_n 3, 1) := by decide +kernel
theorem d_tb_tripFrom_50 : decode prog_1_method_43_code 50 = .ok (.iload_n 3, 1) := by decide +kernel
theorem d_tb_tripFrom_51 : decode prog_1_method_43_code 51 = .ok (.sipush 300, 3) := by decide +kernel
theorem d_tb_tripFrom_54 : decode prog_1_method_43_code 54 = .ok (.if_icmp .lt 6, 3) := by decide +kernel
theorem d_tb_tripFrom_57 : decode prog_1_method_43_code 57 = .ok (.iload 4, 2) := by decide +kernel
theorem d_tb_tripFrom_59 : decode prog_1_method_43_code 59 = .ok (.ireturn, 1) := by decide +kernel
theorem d_tb_tripFrom_60 : decode prog_1_method_43_code 60 = .ok (.iinc 4 1, 3) := by decide +kernel
theorem d_tb_tripFrom_63 : decode prog_1_method_43_code 63 = .ok (.goto (-58), 3) := by decide +kernel
theorem d_tb_tripFrom_66 : decode prog_1_method_43_code 66 = .ok (.sipush (-10001), 3) := by decide +kernel
theorem d_tb_tripFrom_69 : decode prog_1_method_43_code 69 = .ok (.ireturn, 1) := by decide +kernel
theorem d_mo_init_0 : decode prog_7_method_1_code 0 = .ok (.aload_n 0, 1) := by decide +kernel
theorem d_mo_init_1 : decode prog_7_method_1_code 1 = .ok (.invokespecial 1, 3) := by decide +kernel
theorem d_mo_init_4 : decode prog_7_method_1_code 4 = .ok (.aload_n 0, 1) := by decide +kernel
theorem d_mo_init_5 : decode prog_7_method_1_code 5 = .ok (.iconst 4, 1) := by decide +kernel
theorem d_mo_init_6 : decode prog_7_method_1_code 6 = .ok (.newarray .int, 2) := by decide +kernel
theorem d_mo_init_8 : decode prog_7_method_1_code 8 = .ok (.putfield 7, 3) := by decide +kernel
theorem d_mo_init_11 : decode prog_7_method_1_code 11 = .ok (.aload_n 0, 1) := by decide +kernel
theorem d_mo_init_12 : decode prog_7_method_1_code 12 = .ok (.iconst 4, 1) := by decide +kernel
theorem d_mo_init_13 : decode prog_7_method_1_code 13 = .ok (.newarray .int, 2) := by decide +kernel
theorem d_mo_init_15 : decode prog_7_method_1_code 15 = .ok (.putfield 13, 3) := by decide +kernel
theorem d_mo_init_18 : decode prog_7_method_1_code 18 = .ok (.aload_n 0, 1) := by decide +kernel
theorem d_mo_init_19 : decode prog_7_method_1_code 19 = .ok (.iconst 4, 1) := by decide +kernel
theorem d_mo_init_20 : decode prog_7_method_1_code 20 = .ok (.newarray .int, 2) := by decide +kernel
theorem d_mo_init_22 : decode prog_7_method_1_code 22 = .ok (.putfield 16, 3) := by decide +kernel
theorem d_mo_init_25 : decode prog_7_method_1_code 25 = .ok (.aload_n 0, 1) := by decide +kernel
theorem d_mo_init_26 : decode prog_7_method_1_code 26 = .ok (.iconst 4, 1) := by decide +kernel
theorem d_mo_init_27 : decode prog_7_method_1_code 27 = .ok (.newarray .int, 2) := by decide +kernel
theorem d_mo_init_29 : decode prog_7_method_1_code 29 = .ok (.putfield 19, 3) := by decide +kernel
theorem d_mo_init_32 : decode prog_7_method_1_code 32 = .ok (.aload_n 0, 1) := by decide +kernel
theorem d_mo_init_33 : decode prog_7_method_1_code 33 = .ok (.iconst 4, 1) := by decide +kernel
theorem d_mo_init_34 : decode prog_7_method_1_code 34 = .ok (.newarray .int, 2) := by decide +kernel
theorem d_mo_init_36 : decode prog_7_method_1_code 36 = .ok (.putfield 22, 3) := by decide +kernel
theorem d_mo_init_39 : decode prog_7_method_1_code 39 = .ok (.aload_n 0, 1) := by decide +kernel
theorem d_mo_init_40 : decode prog_7_method_1_code 40 = .ok (.bipush 36, 2) := by decide +kernel
theorem d_mo_init_42 : decode prog_7_method_1_code 42 = .ok (.newarray .int, 2) := by decide +kernel
theorem d_mo_init_44 : decode prog_7_method_1_code 44 = .ok (.putfield 25, 3) := by decide +kernel
theorem d_mo_init_47 : decode prog_7_method_1_code 47 = .ok (.aload_n 0, 1) := by decide +kernel
theorem d_mo_init_48 : decode prog_7_method_1_code 48 = .ok (.bipush 65, 2) := by decide +kernel
theorem d_mo_init_50 : decode prog_7_method_1_code 50 = .ok (.newarray .int, 2) := by decide +kernel
theorem d_mo_init_52 : decode prog_7_method_1_code 52 = .ok (.putfield 28, 3) := by decide +kernel
theorem d_mo_init_55 : decode prog_7_method_1_code 55 = .ok (.aload_n 0, 1) := by decide +kernel
theorem d_mo_init_56 : decode prog_7_method_1_code 56 = .ok (.bipush 6, 2) := by decide +kernel
theorem d_mo_init_58 : decode prog_7_method_1_code 58 = .ok (.newarray .int, 2) := by decide +kernel
theorem d_mo_init_60 : decode prog_7_method_1_code 60 = .ok (.putfield 31, 3) := by decide +kernel
theorem d_mo_init_63 : decode prog_7_method_1_code 63 = .ok (.aload_n 0, 1) := by decide +kernel
theorem d_mo_init_64 : decode prog_7_method_1_code 64 = .ok (.bipush 6, 2) := by decide +kernel
theorem d_mo_init_66 : decode prog_7_method_1_code 66 = .ok (.newarray .int, 2) := by decide +kernel
theorem d_mo_init_68 : decode prog_7_method_1_code 68 = .ok (.putfield 34, 3) := by decide +kernel
theorem d_mo_init_71 : decode prog_7_method_1_code 71 = .ok (.aload_n 0, 1) := by decide +kernel
theorem d_mo_init_72 : decode prog_7_method_1_code 72 = .ok (.bipush 6, 2) := by decide +kernel
theorem d_mo_init_74 : decode prog_7_method_1_code 74 = .ok (.newarray .int, 2) := by decide +kernel
theorem d_mo_init_76 : decode prog_7_method_1_code 76 = .ok (.putfield 37, 3) := by decide +kernel
theorem d_mo_init_79 : decode prog_7_method_1_code 79 = .ok (.aload_n 0, 1) := by decide +kernel
theorem d_mo_init_80 : decode prog_7_method_1_code 80 = .ok (.bipush 96, 2) := by decide +kernel
theorem d_mo_init_82 : decode prog_7_method_1_code 82 = .ok (.newarray .byte, 2) := by decide +kernel
theorem d_mo_init_84 : decode prog_7_method_1_code 84 = .ok (.putfield 40, 3) := by decide +kernel
theorem d_mo_init_87 : decode prog_7_method_1_code 87 = .ok (.aload_n 0, 1) := by decide +kernel
theorem d_mo_init_88 : decode prog_7_method_1_code 88 = .ok (.iconst 4, 1) := by decide +kernel
theorem d_mo_init_89 : decode prog_7_method_1_code 89 = .ok (.newarray .int, 2) := by decide +kernel
theorem d_mo_init_91 : decode prog_7_method_1_code 91 = .ok (.putfield 44, 3) := by decide +kernel
theorem d_mo_init_94 : decode prog_7_method_1_code 94 = .ok (.aload_n 0, 1) := by decide +kernel
theorem d_mo_init_95 : decode prog_7_method_1_code 95 = .ok (.iconst 4, 1) := by decide +kernel
theorem d_mo_init_96 : decode prog_7_method_1_code 96 = .ok (.newarray .int, 2) := by decide +kernel
theorem d_mo_init_98 : decode prog_7_method_1_code 98 = .ok (.putfield 47, 3) := by decide +kernel
theorem d_mo_init_101 : decode prog_7_method_1_code 101 = .ok (.aload_n 0, 1) := by decide +kernel
