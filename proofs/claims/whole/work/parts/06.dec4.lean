theorem d_mo_gateNow_29 : decode prog_7_method_42_code 29 = .ok (.iconst 1, 1) := by decide +kernel
theorem d_mo_gateNow_30 : decode prog_7_method_42_code 30 = .ok (.iadd, 1) := by decide +kernel
theorem d_mo_gateNow_31 : decode prog_7_method_42_code 31 = .ok (.imul, 1) := by decide +kernel
theorem d_mo_gateNow_32 : decode prog_7_method_42_code 32 = .ok (.if_icmp .ge 98, 3) := by decide +kernel
theorem d_mo_gateNow_35 : decode prog_7_method_42_code 35 = .ok (.aload_n 0, 1) := by decide +kernel
theorem d_mo_gateNow_36 : decode prog_7_method_42_code 36 = .ok (.iload_n 1, 1) := by decide +kernel
theorem d_mo_gateNow_37 : decode prog_7_method_42_code 37 = .ok (.iload 10, 2) := by decide +kernel
theorem d_mo_gateNow_39 : decode prog_7_method_42_code 39 = .ok (.invokevirtual 185, 3) := by decide +kernel
theorem d_mo_gateNow_42 : decode prog_7_method_42_code 42 = .ok (.iload_n 3, 1) := by decide +kernel
theorem d_mo_gateNow_43 : decode prog_7_method_42_code 43 = .ok (.if_icmp .lt 7, 3) := by decide +kernel
theorem d_mo_gateNow_46 : decode prog_7_method_42_code 46 = .ok (.iconst 1, 1) := by decide +kernel
theorem d_mo_gateNow_47 : decode prog_7_method_42_code 47 = .ok (.goto 4, 3) := by decide +kernel
theorem d_mo_gateNow_50 : decode prog_7_method_42_code 50 = .ok (.iconst 0, 1) := by decide +kernel
theorem d_mo_gateNow_51 : decode prog_7_method_42_code 51 = .ok (.istore 11, 2) := by decide +kernel
theorem d_mo_gateNow_53 : decode prog_7_method_42_code 53 = .ok (.iload 6, 2) := by decide +kernel
theorem d_mo_gateNow_55 : decode prog_7_method_42_code 55 = .ok (.iload 11, 2) := by decide +kernel
theorem d_mo_gateNow_57 : decode prog_7_method_42_code 57 = .ok (.ifCond .eq 12, 3) := by decide +kernel
theorem d_mo_gateNow_60 : decode prog_7_method_42_code 60 = .ok (.iload 9, 2) := by decide +kernel
theorem d_mo_gateNow_62 : decode prog_7_method_42_code 62 = .ok (.ifCond .ne 7, 3) := by decide +kernel
theorem d_mo_gateNow_65 : decode prog_7_method_42_code 65 = .ok (.iconst 1, 1) := by decide +kernel
theorem d_mo_gateNow_66 : decode prog_7_method_42_code 66 = .ok (.goto 4, 3) := by decide +kernel
theorem d_mo_gateNow_69 : decode prog_7_method_42_code 69 = .ok (.iconst 0, 1) := by decide +kernel
theorem d_mo_gateNow_70 : decode prog_7_method_42_code 70 = .ok (.iadd, 1) := by decide +kernel
theorem d_mo_gateNow_71 : decode prog_7_method_42_code 71 = .ok (.istore 6, 2) := by decide +kernel
theorem d_mo_gateNow_73 : decode prog_7_method_42_code 73 = .ok (.iload 11, 2) := by decide +kernel
theorem d_mo_gateNow_75 : decode prog_7_method_42_code 75 = .ok (.ifCond .eq 20, 3) := by decide +kernel
theorem d_mo_gateNow_78 : decode prog_7_method_42_code 78 = .ok (.iload 9, 2) := by decide +kernel
theorem d_mo_gateNow_80 : decode prog_7_method_42_code 80 = .ok (.ifCond .ne 15, 3) := by decide +kernel
theorem d_mo_gateNow_83 : decode prog_7_method_42_code 83 = .ok (.iload 6, 2) := by decide +kernel
theorem d_mo_gateNow_85 : decode prog_7_method_42_code 85 = .ok (.iload 4, 2) := by decide +kernel
theorem d_mo_gateNow_87 : decode prog_7_method_42_code 87 = .ok (.if_icmp .ne 8, 3) := by decide +kernel
theorem d_mo_gateNow_90 : decode prog_7_method_42_code 90 = .ok (.iload 10, 2) := by decide +kernel
theorem d_mo_gateNow_92 : decode prog_7_method_42_code 92 = .ok (.goto 5, 3) := by decide +kernel
theorem d_mo_gateNow_95 : decode prog_7_method_42_code 95 = .ok (.iload 7, 2) := by decide +kernel
theorem d_mo_gateNow_97 : decode prog_7_method_42_code 97 = .ok (.istore 7, 2) := by decide +kernel
theorem d_mo_gateNow_99 : decode prog_7_method_42_code 99 = .ok (.iload 11, 2) := by decide +kernel
theorem d_mo_gateNow_101 : decode prog_7_method_42_code 101 = .ok (.ifCond .eq 15, 3) := by decide +kernel
theorem d_mo_gateNow_104 : decode prog_7_method_42_code 104 = .ok (.iload 6, 2) := by decide +kernel
theorem d_mo_gateNow_106 : decode prog_7_method_42_code 106 = .ok (.iload 4, 2) := by decide +kernel
theorem d_mo_gateNow_108 : decode prog_7_method_42_code 108 = .ok (.if_icmp .ne 8, 3) := by decide +kernel
theorem d_mo_gateNow_111 : decode prog_7_method_42_code 111 = .ok (.iload 10, 2) := by decide +kernel
theorem d_mo_gateNow_113 : decode prog_7_method_42_code 113 = .ok (.goto 5, 3) := by decide +kernel
theorem d_mo_gateNow_116 : decode prog_7_method_42_code 116 = .ok (.iload 8, 2) := by decide +kernel
theorem d_mo_gateNow_118 : decode prog_7_method_42_code 118 = .ok (.istore 8, 2) := by decide +kernel
theorem d_mo_gateNow_120 : decode prog_7_method_42_code 120 = .ok (.iload 11, 2) := by decide +kernel
theorem d_mo_gateNow_122 : decode prog_7_method_42_code 122 = .ok (.istore 9, 2) := by decide +kernel
theorem d_mo_gateNow_124 : decode prog_7_method_42_code 124 = .ok (.iinc 10 1, 3) := by decide +kernel
theorem d_mo_gateNow_127 : decode prog_7_method_42_code 127 = .ok (.goto (-104), 3) := by decide +kernel
theorem d_mo_gateNow_130 : decode prog_7_method_42_code 130 = .ok (.iload 7, 2) := by decide +kernel
theorem d_mo_gateNow_132 : decode prog_7_method_42_code 132 = .ok (.sipush (-10001), 3) := by decide +kernel
theorem d_mo_gateNow_135 : decode prog_7_method_42_code 135 = .ok (.if_icmp .ne 9, 3) := by decide +kernel
theorem d_mo_gateNow_138 : decode prog_7_method_42_code 138 = .ok (.sipush (-10101), 3) := by decide +kernel
theorem d_mo_gateNow_141 : decode prog_7_method_42_code 141 = .ok (.goto 15, 3) := by decide +kernel
theorem d_mo_gateNow_144 : decode prog_7_method_42_code 144 = .ok (.iload 5, 2) := by decide +kernel
theorem d_mo_gateNow_146 : decode prog_7_method_42_code 146 = .ok (.ifCond .ne 8, 3) := by decide +kernel
theorem d_mo_gateNow_149 : decode prog_7_method_42_code 149 = .ok (.iload 7, 2) := by decide +kernel
theorem d_mo_gateNow_151 : decode prog_7_method_42_code 151 = .ok (.goto 5, 3) := by decide +kernel
theorem d_mo_gateNow_154 : decode prog_7_method_42_code 154 = .ok (.iload 8, 2) := by decide +kernel
theorem d_mo_gateNow_156 : decode prog_7_method_42_code 156 = .ok (.ireturn, 1) := by decide +kernel
theorem d_mo_gate_0 : decode prog_7_method_43_code 0 = .ok (.aload_n 0, 1) := by decide +kernel
theorem d_mo_gate_1 : decode prog_7_method_43_code 1 = .ok (.iload_n 1, 1) := by decide +kernel
theorem d_mo_gate_2 : decode prog_7_method_43_code 2 = .ok (.invokevirtual 147, 3) := by decide +kernel
theorem d_mo_gate_5 : decode prog_7_method_43_code 5 = .ok (.ifCond .ne 7, 3) := by decide +kernel
theorem d_mo_gate_8 : decode prog_7_method_43_code 8 = .ok (.sipush (-10101), 3) := by decide +kernel
theorem d_mo_gate_11 : decode prog_7_method_43_code 11 = .ok (.ireturn, 1) := by decide +kernel
theorem d_mo_gate_12 : decode prog_7_method_43_code 12 = .ok (.iload_n 2, 1) := by decide +kernel
theorem d_mo_gate_13 : decode prog_7_method_43_code 13 = .ok (.invokestatic 194, 3) := by decide +kernel
theorem d_mo_gate_16 : decode prog_7_method_43_code 16 = .ok (.ifCond .eq 10, 3) := by decide +kernel
theorem d_mo_gate_19 : decode prog_7_method_43_code 19 = .ok (.iload_n 3, 1) := by decide +kernel
theorem d_mo_gate_20 : decode prog_7_method_43_code 20 = .ok (.invokestatic 201, 3) := by decide +kernel
theorem d_mo_gate_23 : decode prog_7_method_43_code 23 = .ok (.ifCond .ne 7, 3) := by decide +kernel
theorem d_mo_gate_26 : decode prog_7_method_43_code 26 = .ok (.sipush (-10102), 3) := by decide +kernel
theorem d_mo_gate_29 : decode prog_7_method_43_code 29 = .ok (.ireturn, 1) := by decide +kernel
theorem d_mo_gate_30 : decode prog_7_method_43_code 30 = .ok (.aload_n 0, 1) := by decide +kernel
theorem d_mo_gate_31 : decode prog_7_method_43_code 31 = .ok (.iload_n 1, 1) := by decide +kernel
theorem d_mo_gate_32 : decode prog_7_method_43_code 32 = .ok (.iload_n 2, 1) := by decide +kernel
theorem d_mo_gate_33 : decode prog_7_method_43_code 33 = .ok (.iload_n 3, 1) := by decide +kernel
theorem d_mo_gate_34 : decode prog_7_method_43_code 34 = .ok (.iload 4, 2) := by decide +kernel
theorem d_mo_gate_36 : decode prog_7_method_43_code 36 = .ok (.iconst 0, 1) := by decide +kernel
theorem d_mo_gate_37 : decode prog_7_method_43_code 37 = .ok (.invokevirtual 204, 3) := by decide +kernel
theorem d_mo_gate_40 : decode prog_7_method_43_code 40 = .ok (.sipush (-10101), 3) := by decide +kernel
theorem d_mo_gate_43 : decode prog_7_method_43_code 43 = .ok (.if_icmp .ne 9, 3) := by decide +kernel
theorem d_mo_gate_46 : decode prog_7_method_43_code 46 = .ok (.sipush (-10101), 3) := by decide +kernel
theorem d_mo_gate_49 : decode prog_7_method_43_code 49 = .ok (.goto 30, 3) := by decide +kernel
theorem d_mo_gate_52 : decode prog_7_method_43_code 52 = .ok (.iload 5, 2) := by decide +kernel
theorem d_mo_gate_54 : decode prog_7_method_43_code 54 = .ok (.iconst 0, 1) := by decide +kernel
theorem d_mo_gate_55 : decode prog_7_method_43_code 55 = .ok (.iconst 1, 1) := by decide +kernel
theorem d_mo_gate_56 : decode prog_7_method_43_code 56 = .ok (.invokestatic 93, 3) := by decide +kernel
theorem d_mo_gate_59 : decode prog_7_method_43_code 59 = .ok (.ifCond .eq 17, 3) := by decide +kernel
theorem d_mo_gate_62 : decode prog_7_method_43_code 62 = .ok (.aload_n 0, 1) := by decide +kernel
theorem d_mo_gate_63 : decode prog_7_method_43_code 63 = .ok (.iload_n 1, 1) := by decide +kernel
theorem d_mo_gate_64 : decode prog_7_method_43_code 64 = .ok (.iload_n 2, 1) := by decide +kernel
theorem d_mo_gate_65 : decode prog_7_method_43_code 65 = .ok (.iload_n 3, 1) := by decide +kernel
theorem d_mo_gate_66 : decode prog_7_method_43_code 66 = .ok (.iload 4, 2) := by decide +kernel
theorem d_mo_gate_68 : decode prog_7_method_43_code 68 = .ok (.iload 5, 2) := by decide +kernel
theorem d_mo_gate_70 : decode prog_7_method_43_code 70 = .ok (.invokevirtual 204, 3) := by decide +kernel
theorem d_mo_gate_73 : decode prog_7_method_43_code 73 = .ok (.goto 6, 3) := by decide +kernel
theorem d_mo_gate_76 : decode prog_7_method_43_code 76 = .ok (.sipush (-10102), 3) := by decide +kernel
theorem d_mo_gate_79 : decode prog_7_method_43_code 79 = .ok (.ireturn, 1) := by decide +kernel
theorem d_mo_dryNow_0 : decode prog_7_method_44_code 0 = .ok (.iconst 0, 1) := by decide +kernel
theorem d_mo_dryNow_1 : decode prog_7_method_44_code 1 = .ok (.istore 4, 2) := by decide +kernel
theorem d_mo_dryNow_3 : decode prog_7_method_44_code 3 = .ok (.sipush 144, 3) := by decide +kernel
theorem d_mo_dryNow_6 : decode prog_7_method_44_code 6 = .ok (.iload_n 2, 1) := by decide +kernel
theorem d_mo_dryNow_7 : decode prog_7_method_44_code 7 = .ok (.imul, 1) := by decide +kernel
theorem d_mo_dryNow_8 : decode prog_7_method_44_code 8 = .ok (.istore 5, 2) := by decide +kernel
theorem d_mo_dryNow_10 : decode prog_7_method_44_code 10 = .ok (.iload 5, 2) := by decide +kernel
theorem d_mo_dryNow_12 : decode prog_7_method_44_code 12 = .ok (.sipush 144, 3) := by decide +kernel
theorem d_mo_dryNow_15 : decode prog_7_method_44_code 15 = .ok (.iload_n 2, 1) := by decide +kernel
theorem d_mo_dryNow_16 : decode prog_7_method_44_code 16 = .ok (.iconst 1, 1) := by decide +kernel
theorem d_mo_dryNow_17 : decode prog_7_method_44_code 17 = .ok (.iadd, 1) := by decide +kernel
theorem d_mo_dryNow_18 : decode prog_7_method_44_code 18 = .ok (.imul, 1) := by decide +kernel
theorem d_mo_dryNow_19 : decode prog_7_method_44_code 19 = .ok (.if_icmp .ge 30, 3) := by decide +kernel
theorem d_mo_dryNow_22 : decode prog_7_method_44_code 22 = .ok (.iload 4, 2) := by decide +kernel
theorem d_mo_dryNow_24 : decode prog_7_method_44_code 24 = .ok (.aload_n 0, 1) := by decide +kernel
theorem d_mo_dryNow_25 : decode prog_7_method_44_code 25 = .ok (.iload_n 1, 1) := by decide +kernel
theorem d_mo_dryNow_26 : decode prog_7_method_44_code 26 = .ok (.iload 5, 2) := by decide +kernel
theorem d_mo_dryNow_28 : decode prog_7_method_44_code 28 = .ok (.invokevirtual 185, 3) := by decide +kernel
theorem d_mo_dryNow_31 : decode prog_7_method_44_code 31 = .ok (.iload_n 3, 1) := by decide +kernel
theorem d_mo_dryNow_32 : decode prog_7_method_44_code 32 = .ok (.if_icmp .ge 7, 3) := by decide +kernel
theorem d_mo_dryNow_35 : decode prog_7_method_44_code 35 = .ok (.iconst 1, 1) := by decide +kernel
theorem d_mo_dryNow_36 : decode prog_7_method_44_code 36 = .ok (.goto 4, 3) := by decide +kernel
theorem d_mo_dryNow_39 : decode prog_7_method_44_code 39 = .ok (.iconst 0, 1) := by decide +kernel
theorem d_mo_dryNow_40 : decode prog_7_method_44_code 40 = .ok (.iadd, 1) := by decide +kernel
theorem d_mo_dryNow_41 : decode prog_7_method_44_code 41 = .ok (.istore 4, 2) := by decide +kernel
theorem d_mo_dryNow_43 : decode prog_7_method_44_code 43 = .ok (.iinc 5 1, 3) := by decide +kernel
theorem d_mo_dryNow_46 : decode prog_7_method_44_code 46 = .ok (.goto (-36), 3) := by decide +kernel
theorem d_mo_dryNow_49 : decode prog_7_method_44_code 49 = .ok (.iload 4, 2) := by decide +kernel
theorem d_mo_dryNow_51 : decode prog_7_method_44_code 51 = .ok (.ireturn, 1) := by decide +kernel
theorem d_mo_dry_0 : decode prog_7_method_45_code 0 = .ok (.aload_n 0, 1) := by decide +kernel
theorem d_mo_dry_1 : decode prog_7_method_45_code 1 = .ok (.iload_n 1, 1) := by decide +kernel
theorem d_mo_dry_2 : decode prog_7_method_45_code 2 = .ok (.invokevirtual 147, 3) := by decide +kernel
theorem d_mo_dry_5 : decode prog_7_method_45_code 5 = .ok (.ifCond .ne 9, 3) := by decide +kernel
theorem d_mo_dry_8 : decode prog_7_method_45_code 8 = .ok (.sipush (-10101), 3) := by decide +kernel
theorem d_mo_dry_11 : decode prog_7_method_45_code 11 = .ok (.goto 30, 3) := by decide +kernel
theorem d_mo_dry_14 : decode prog_7_method_45_code 14 = .ok (.iload_n 2, 1) := by decide +kernel
theorem d_mo_dry_15 : decode prog_7_method_45_code 15 = .ok (.invokestatic 194, 3) := by decide +kernel
theorem d_mo_dry_18 : decode prog_7_method_45_code 18 = .ok (.ifCond .eq 20, 3) := by decide +kernel
theorem d_mo_dry_21 : decode prog_7_method_45_code 21 = .ok (.iload_n 3, 1) := by decide +kernel
theorem d_mo_dry_22 : decode prog_7_method_45_code 22 = .ok (.invokestatic 201, 3) := by decide +kernel
theorem d_mo_dry_25 : decode prog_7_method_45_code 25 = .ok (.ifCond .eq 13, 3) := by decide +kernel
theorem d_mo_dry_28 : decode prog_7_method_45_code 28 = .ok (.aload_n 0, 1) := by decide +kernel
theorem d_mo_dry_29 : decode prog_7_method_45_code 29 = .ok (.iload_n 1, 1) := by decide +kernel
theorem d_mo_dry_30 : decode prog_7_method_45_code 30 = .ok (.iload_n 2, 1) := by decide +kernel
theorem d_mo_dry_31 : decode prog_7_method_45_code 31 = .ok (.iload_n 3, 1) := by decide +kernel
theorem d_mo_dry_32 : decode prog_7_method_45_code 32 = .ok (.invokevirtual 208, 3) := by decide +kernel
theorem d_mo_dry_35 : decode prog_7_method_45_code 35 = .ok (.goto 6, 3) := by decide +kernel
theorem d_mo_dry_38 : decode prog_7_method_45_code 38 = .ok (.sipush (-10102), 3) := by decide +kernel
theorem d_mo_dry_41 : decode prog_7_method_45_code 41 = .ok (.ireturn, 1) := by decide +kernel
theorem d_mo_streamAt_0 : decode prog_7_method_46_code 0 = .ok (.aload_n 0, 1) := by decide +kernel
theorem d_mo_streamAt_1 : decode prog_7_method_46_code 1 = .ok (.iload_n 1, 1) := by decide +kernel
theorem d_mo_streamAt_2 : decode prog_7_method_46_code 2 = .ok (.iload_n 3, 1) := by decide +kernel
theorem d_mo_streamAt_3 : decode prog_7_method_46_code 3 = .ok (.invokevirtual 185, 3) := by decide +kernel
theorem d_mo_streamAt_6 : decode prog_7_method_46_code 6 = .ok (.aload_n 0, 1) := by decide +kernel
theorem d_mo_streamAt_7 : decode prog_7_method_46_code 7 = .ok (.iload_n 2, 1) := by decide +kernel
theorem d_mo_streamAt_8 : decode prog_7_method_46_code 8 = .ok (.iload_n 3, 1) := by decide +kernel
theorem d_mo_streamAt_9 : decode prog_7_method_46_code 9 = .ok (.invokevirtual 185, 3) := by decide +kernel
theorem d_mo_streamAt_12 : decode prog_7_method_46_code 12 = .ok (.isub, 1) := by decide +kernel
theorem d_mo_streamAt_13 : decode prog_7_method_46_code 13 = .ok (.ireturn, 1) := by decide +kernel
theorem d_mo_stream_0 : decode prog_7_method_47_code 0 = .ok (.aload_n 0, 1) := by decide +kernel
theorem d_mo_stream_1 : decode prog_7_method_47_code 1 = .ok (.iload_n 1, 1) := by decide +kernel
theorem d_mo_stream_2 : decode prog_7_method_47_code 2 = .ok (.invokevirtual 147, 3) := by decide +kernel
theorem d_mo_stream_5 : decode prog_7_method_47_code 5 = .ok (.ifCond .eq 11, 3) := by decide +kernel
theorem d_mo_stream_8 : decode prog_7_method_47_code 8 = .ok (.aload_n 0, 1) := by decide +kernel
theorem d_mo_stream_9 : decode prog_7_method_47_code 9 = .ok (.iload_n 2, 1) := by decide +kernel
theorem d_mo_stream_10 : decode prog_7_method_47_code 10 = .ok (.invokevirtual 147, 3) := by decide +kernel
theorem d_mo_stream_13 : decode prog_7_method_47_code 13 = .ok (.ifCond .ne 9, 3) := by decide +kernel
theorem d_mo_stream_16 : decode prog_7_method_47_code 16 = .ok (.sipush (-10101), 3) := by decide +kernel
theorem d_mo_stream_19 : decode prog_7_method_47_code 19 = .ok (.goto 23, 3) := by decide +kernel
theorem d_mo_stream_22 : decode prog_7_method_47_code 22 = .ok (.iload_n 3, 1) := by decide +kernel
theorem d_mo_stream_23 : decode prog_7_method_47_code 23 = .ok (.invokestatic 182, 3) := by decide +kernel
theorem d_mo_stream_26 : decode prog_7_method_47_code 26 = .ok (.ifCond .eq 13, 3) := by decide +kernel
theorem d_mo_stream_29 : decode prog_7_method_47_code 29 = .ok (.aload_n 0, 1) := by decide +kernel
theorem d_mo_stream_30 : decode prog_7_method_47_code 30 = .ok (.iload_n 1, 1) := by decide +kernel
theorem d_mo_stream_31 : decode prog_7_method_47_code 31 = .ok (.iload_n 2, 1) := by decide +kernel
theorem d_mo_stream_32 : decode prog_7_method_47_code 32 = .ok (.iload_n 3, 1) := by decide +kernel
theorem d_mo_stream_33 : decode prog_7_method_47_code 33 = .ok (.invokevirtual 211, 3) := by decide +kernel
theorem d_mo_stream_36 : decode prog_7_method_47_code 36 = .ok (.goto 6, 3) := by decide +kernel
theorem d_mo_stream_39 : decode prog_7_method_47_code 39 = .ok (.sipush (-10102), 3) := by decide +kernel
theorem d_mo_stream_42 : decode prog_7_method_47_code 42 = .ok (.ireturn, 1) := by decide +kernel
theorem d_mo_slackNow_0 : decode prog_7_method_48_code 0 = .ok (.iload_n 3, 1) := by decide +kernel
theorem d_mo_slackNow_1 : decode prog_7_method_48_code 1 = .ok (.istore 4, 2) := by decide +kernel
theorem d_mo_slackNow_3 : decode prog_7_method_48_code 3 = .ok (.iload 4, 2) := by decide +kernel
theorem d_mo_slackNow_5 : decode prog_7_method_48_code 5 = .ok (.iload_n 3, 1) := by decide +kernel
theorem d_mo_slackNow_6 : decode prog_7_method_48_code 6 = .ok (.sipush 144, 3) := by decide +kernel
theorem d_mo_slackNow_9 : decode prog_7_method_48_code 9 = .ok (.iadd, 1) := by decide +kernel
theorem d_mo_slackNow_10 : decode prog_7_method_48_code 10 = .ok (.if_icmp .ge 59, 3) := by decide +kernel
theorem d_mo_slackNow_13 : decode prog_7_method_48_code 13 = .ok (.aload_n 0, 1) := by decide +kernel
theorem d_mo_slackNow_14 : decode prog_7_method_48_code 14 = .ok (.iload_n 1, 1) := by decide +kernel
theorem d_mo_slackNow_15 : decode prog_7_method_48_code 15 = .ok (.iload_n 2, 1) := by decide +kernel
theorem d_mo_slackNow_16 : decode prog_7_method_48_code 16 = .ok (.iload 4, 2) := by decide +kernel
theorem d_mo_slackNow_18 : decode prog_7_method_48_code 18 = .ok (.invokevirtual 211, 3) := by decide +kernel
theorem d_mo_slackNow_21 : decode prog_7_method_48_code 21 = .ok (.istore 5, 2) := by decide +kernel
theorem d_mo_slackNow_23 : decode prog_7_method_48_code 23 = .ok (.aload_n 0, 1) := by decide +kernel
theorem d_mo_slackNow_24 : decode prog_7_method_48_code 24 = .ok (.iload_n 1, 1) := by decide +kernel
theorem d_mo_slackNow_25 : decode prog_7_method_48_code 25 = .ok (.iload_n 2, 1) := by decide +kernel
theorem d_mo_slackNow_26 : decode prog_7_method_48_code 26 = .ok (.iload 4, 2) := by decide +kernel
theorem d_mo_slackNow_28 : decode prog_7_method_48_code 28 = .ok (.iconst 1, 1) := by decide +kernel
theorem d_mo_slackNow_29 : decode prog_7_method_48_code 29 = .ok (.isub, 1) := by decide +kernel
theorem d_mo_slackNow_30 : decode prog_7_method_48_code 30 = .ok (.invokevirtual 211, 3) := by decide +kernel
theorem d_mo_slackNow_33 : decode prog_7_method_48_code 33 = .ok (.istore 6, 2) := by decide +kernel
theorem d_mo_slackNow_35 : decode prog_7_method_48_code 35 = .ok (.iload 5, 2) := by decide +kernel
theorem d_mo_slackNow_37 : decode prog_7_method_48_code 37 = .ok (.ifCond .eq 23, 3) := by decide +kernel
theorem d_mo_slackNow_40 : decode prog_7_method_48_code 40 = .ok (.iload 5, 2) := by decide +kernel
theorem d_mo_slackNow_42 : decode prog_7_method_48_code 42 = .ok (.ifCond .le 8, 3) := by decide +kernel
theorem d_mo_slackNow_45 : decode prog_7_method_48_code 45 = .ok (.iload 6, 2) := by decide +kernel
theorem d_mo_slackNow_47 : decode prog_7_method_48_code 47 = .ok (.ifCond .lt 13, 3) := by decide +kernel
theorem d_mo_slackNow_50 : decode prog_7_method_48_code 50 = .ok (.iload 5, 2) := by decide +kernel
theorem d_mo_slackNow_52 : decode prog_7_method_48_code 52 = .ok (.ifCond .ge 11, 3) := by decide +kernel
theorem d_mo_slackNow_55 : decode prog_7_method_48_code 55 = .ok (.iload 6, 2) := by decide +kernel
theorem d_mo_slackNow_57 : decode prog_7_method_48_code 57 = .ok (.ifCond .le 6, 3) := by decide +kernel
theorem d_mo_slackNow_60 : decode prog_7_method_48_code 60 = .ok (.iload 4, 2) := by decide +kernel
theorem d_mo_slackNow_62 : decode prog_7_method_48_code 62 = .ok (.ireturn, 1) := by decide +kernel
theorem d_mo_slackNow_63 : decode prog_7_method_48_code 63 = .ok (.iinc 4 1, 3) := by decide +kernel
theorem d_mo_slackNow_66 : decode prog_7_method_48_code 66 = .ok (.goto (-63), 3) := by decide +kernel
theorem d_mo_slackNow_69 : decode prog_7_method_48_code 69 = .ok (.sipush (-10001), 3) := by decide +kernel
theorem d_mo_slackNow_72 : decode prog_7_method_48_code 72 = .ok (.ireturn, 1) := by decide +kernel
theorem d_mo_slack_0 : decode prog_7_method_49_code 0 = .ok (.aload_n 0, 1) := by decide +kernel
theorem d_mo_slack_1 : decode prog_7_method_49_code 1 = .ok (.iload_n 1, 1) := by decide +kernel
theorem d_mo_slack_2 : decode prog_7_method_49_code 2 = .ok (.invokevirtual 147, 3) := by decide +kernel
theorem d_mo_slack_5 : decode prog_7_method_49_code 5 = .ok (.ifCond .eq 11, 3) := by decide +kernel
theorem d_mo_slack_8 : decode prog_7_method_49_code 8 = .ok (.aload_n 0, 1) := by decide +kernel
theorem d_mo_slack_9 : decode prog_7_method_49_code 9 = .ok (.iload_n 2, 1) := by decide +kernel
theorem d_mo_slack_10 : decode prog_7_method_49_code 10 = .ok (.invokevirtual 147, 3) := by decide +kernel
theorem d_mo_slack_13 : decode prog_7_method_49_code 13 = .ok (.ifCond .ne 9, 3) := by decide +kernel
theorem d_mo_slack_16 : decode prog_7_method_49_code 16 = .ok (.sipush (-10101), 3) := by decide +kernel
theorem d_mo_slack_19 : decode prog_7_method_49_code 19 = .ok (.goto 23, 3) := by decide +kernel
theorem d_mo_slack_22 : decode prog_7_method_49_code 22 = .ok (.iload_n 3, 1) := by decide +kernel
theorem d_mo_slack_23 : decode prog_7_method_49_code 23 = .ok (.invokestatic 182, 3) := by decide +kernel
theorem d_mo_slack_26 : decode prog_7_method_49_code 26 = .ok (.ifCond .eq 13, 3) := by decide +kernel
theorem d_mo_slack_29 : decode prog_7_method_49_code 29 = .ok (.aload_n 0, 1) := by decide +kernel
theorem d_mo_slack_30 : decode prog_7_method_49_code 30 = .ok (.iload_n 1, 1) := by decide +kernel
theorem d_mo_slack_31 : decode prog_7_method_49_code 31 = .ok (.iload_n 2, 1) := by decide +kernel
theorem d_mo_slack_32 : decode prog_7_method_49_code 32 = .ok (.iload_n 3, 1) := by decide +kernel
theorem d_mo_slack_33 : decode prog_7_method_49_code 33 = .ok (.invokevirtual 214, 3) := by decide +kernel
theorem d_mo_slack_36 : decode prog_7_method_49_code 36 = .ok (.goto 6, 3) := by decide +kernel
theorem d_mo_slack_39 : decode prog_7_method_49_code 39 = .ok (.sipush (-10102), 3) := by decide +kernel
theorem d_mo_slack_42 : decode prog_7_method_49_code 42 = .ok (.ireturn, 1) := by decide +kernel
theorem d_mo_tripNow_0 : decode prog_7_method_50_code 0 = .ok (.iconst 0, 1) := by decide +kernel
theorem d_mo_tripNow_1 : decode prog_7_method_50_code 1 = .ok (.istore 5, 2) := by decide +kernel
theorem d_mo_tripNow_3 : decode prog_7_method_50_code 3 = .ok (.iconst 0, 1) := by decide +kernel
theorem d_mo_tripNow_4 : decode prog_7_method_50_code 4 = .ok (.istore 6, 2) := by decide +kernel
theorem d_mo_tripNow_6 : decode prog_7_method_50_code 6 = .ok (.iload 6, 2) := by decide +kernel
theorem d_mo_tripNow_8 : decode prog_7_method_50_code 8 = .ok (.sipush 200, 3) := by decide +kernel
theorem d_mo_tripNow_11 : decode prog_7_method_50_code 11 = .ok (.if_icmp .ge 58, 3) := by decide +kernel
theorem d_mo_tripNow_14 : decode prog_7_method_50_code 14 = .ok (.iload 4, 2) := by decide +kernel
theorem d_mo_tripNow_16 : decode prog_7_method_50_code 16 = .ok (.aload_n 0, 1) := by decide +kernel
theorem d_mo_tripNow_17 : decode prog_7_method_50_code 17 = .ok (.iload_n 1, 1) := by decide +kernel
theorem d_mo_tripNow_18 : decode prog_7_method_50_code 18 = .ok (.iload_n 2, 1) := by decide +kernel
theorem d_mo_tripNow_19 : decode prog_7_method_50_code 19 = .ok (.iload_n 3, 1) := by decide +kernel
theorem d_mo_tripNow_20 : decode prog_7_method_50_code 20 = .ok (.iload 6, 2) := by decide +kernel
theorem d_mo_tripNow_22 : decode prog_7_method_50_code 22 = .ok (.iadd, 1) := by decide +kernel
theorem d_mo_tripNow_23 : decode prog_7_method_50_code 23 = .ok (.invokevirtual 211, 3) := by decide +kernel
theorem d_mo_tripNow_26 : decode prog_7_method_50_code 26 = .ok (.bipush 20, 2) := by decide +kernel
theorem d_mo_tripNow_28 : decode prog_7_method_50_code 28 = .ok (.invokestatic 167, 3) := by decide +kernel
theorem d_mo_tripNow_31 : decode prog_7_method_50_code 31 = .ok (.iadd, 1) := by decide +kernel
theorem d_mo_tripNow_32 : decode prog_7_method_50_code 32 = .ok (.istore 7, 2) := by decide +kernel
theorem d_mo_tripNow_34 : decode prog_7_method_50_code 34 = .ok (.iload 5, 2) := by decide +kernel
theorem d_mo_tripNow_36 : decode prog_7_method_50_code 36 = .ok (.iload 7, 2) := by decide +kernel
theorem d_mo_tripNow_38 : decode prog_7_method_50_code 38 = .ok (.ifCond .le 8, 3) := by decide +kernel
theorem d_mo_tripNow_41 : decode prog_7_method_50_code 41 = .ok (.iload 7, 2) := by decide +kernel
theorem d_mo_tripNow_43 : decode prog_7_method_50_code 43 = .ok (.goto 4, 3) := by decide +kernel
theorem d_mo_tripNow_46 : decode prog_7_method_50_code 46 = .ok (.iconst 0, 1) := by decide +kernel
theorem d_mo_tripNow_47 : decode prog_7_method_50_code 47 = .ok (.iadd, 1) := by decide +kernel
theorem d_mo_tripNow_48 : decode prog_7_method_50_code 48 = .ok (.istore 5, 2) := by decide +kernel
theorem d_mo_tripNow_50 : decode prog_7_method_50_code 50 = .ok (.iload 5, 2) := by decide +kernel
theorem d_mo_tripNow_52 : decode prog_7_method_50_code 52 = .ok (.sipush 300, 3) := by decide +kernel
theorem d_mo_tripNow_55 : decode prog_7_method_50_code 55 = .ok (.if_icmp .lt 8, 3) := by decide +kernel
theorem d_mo_tripNow_58 : decode prog_7_method_50_code 58 = .ok (.iload 6, 2) := by decide +kernel
theorem d_mo_tripNow_60 : decode prog_7_method_50_code 60 = .ok (.iconst 1, 1) := by decide +kernel
theorem d_mo_tripNow_61 : decode prog_7_method_50_code 61 = .ok (.iadd, 1) := by decide +kernel
theorem d_mo_tripNow_62 : decode prog_7_method_50_code 62 = .ok (.ireturn, 1) := by decide +kernel
theorem d_mo_tripNow_63 : decode prog_7_method_50_code 63 = .ok (.iinc 6 1, 3) := by decide +kernel
theorem d_mo_tripNow_66 : decode prog_7_method_50_code 66 = .ok (.goto (-60), 3) := by decide +kernel
theorem d_mo_tripNow_69 : decode prog_7_method_50_code 69 = .ok (.sipush (-10001), 3) := by decide +kernel
theorem d_mo_tripNow_72 : decode prog_7_method_50_code 72 = .ok (.ireturn, 1) := by decide +kernel
theorem d_mo_isPace_0 : decode prog_7_method_51_code 0 = .ok (.iload_n 0, 1) := by decide +kernel
theorem d_mo_isPace_1 : decode prog_7_method_51_code 1 = .ok (.iconst 1, 1) := by decide +kernel
theorem d_mo_isPace_2 : decode prog_7_method_51_code 2 = .ok (.bipush 30, 2) := by decide +kernel
theorem d_mo_isPace_4 : decode prog_7_method_51_code 4 = .ok (.invokestatic 93, 3) := by decide +kernel
theorem d_mo_isPace_7 : decode prog_7_method_51_code 7 = .ok (.ireturn, 1) := by decide +kernel
theorem d_mo_trip_0 : decode prog_7_method_52_code 0 = .ok (.aload_n 0, 1) := by decide +kernel
theorem d_mo_trip_1 : decode prog_7_method_52_code 1 = .ok (.iload_n 1, 1) := by decide +kernel
theorem d_mo_trip_2 : decode prog_7_method_52_code 2 = .ok (.invokevirtual 147, 3) := by decide +kernel
theorem d_mo_trip_5 : decode prog_7_method_52_code 5 = .ok (.ifCond .eq 11, 3) := by decide +kernel
theorem d_mo_trip_8 : decode prog_7_method_52_code 8 = .ok (.aload_n 0, 1) := by decide +kernel
theorem d_mo_trip_9 : decode prog_7_method_52_code 9 = .ok (.iload_n 2, 1) := by decide +kernel
theorem d_mo_trip_10 : decode prog_7_method_52_code 10 = .ok (.invokevirtual 147, 3) := by decide +kernel
theorem d_mo_trip_13 : decode prog_7_method_52_code 13 = .ok (.ifCond .ne 7, 3) := by decide +kernel
theorem d_mo_trip_16 : decode prog_7_method_52_code 16 = .ok (.sipush (-10101), 3) := by decide +kernel
theorem d_mo_trip_19 : decode prog_7_method_52_code 19 = .ok (.ireturn, 1) := by decide +kernel
theorem d_mo_trip_20 : decode prog_7_method_52_code 20 = .ok (.iload_n 3, 1) := by decide +kernel
theorem d_mo_trip_21 : decode prog_7_method_52_code 21 = .ok (.invokestatic 182, 3) := by decide +kernel
theorem d_mo_trip_24 : decode prog_7_method_52_code 24 = .ok (.ifCond .eq 23, 3) := by decide +kernel
theorem d_mo_trip_27 : decode prog_7_method_52_code 27 = .ok (.iload 4, 2) := by decide +kernel
theorem d_mo_trip_29 : decode prog_7_method_52_code 29 = .ok (.invokestatic 217, 3) := by decide +kernel
theorem d_mo_trip_32 : decode prog_7_method_52_code 32 = .ok (.ifCond .eq 15, 3) := by decide +kernel
theorem d_mo_trip_35 : decode prog_7_method_52_code 35 = .ok (.aload_n 0, 1) := by decide +kernel
theorem d_mo_trip_36 : decode prog_7_method_52_code 36 = .ok (.iload_n 1, 1) := by decide +kernel
theorem d_mo_trip_37 : decode prog_7_method_52_code 37 = .ok (.iload_n 2, 1) := by decide +kernel
theorem d_mo_trip_38 : decode prog_7_method_52_code 38 = .ok (.iload_n 3, 1) := by decide +kernel
theorem d_mo_trip_39 : decode prog_7_method_52_code 39 = .ok (.iload 4, 2) := by decide +kernel
theorem d_mo_trip_41 : decode prog_7_method_52_code 41 = .ok (.invokevirtual 220, 3) := by decide +kernel
theorem d_mo_trip_44 : decode prog_7_method_52_code 44 = .ok (.goto 6, 3) := by decide +kernel
theorem d_mo_trip_47 : decode prog_7_method_52_code 47 = .ok (.sipush (-10102), 3) := by decide +kernel
theorem d_mo_trip_50 : decode prog_7_method_52_code 50 = .ok (.ireturn, 1) := by decide +kernel
theorem d_mo_leaveNow_0 : decode prog_7_method_53_code 0 = .ok (.sipush 144, 3) := by decide +kernel
theorem d_mo_leaveNow_3 : decode prog_7_method_53_code 3 = .ok (.iload_n 3, 1) := by decide +kernel
theorem d_mo_leaveNow_4 : decode prog_7_method_53_code 4 = .ok (.imul, 1) := by decide +kernel
theorem d_mo_leaveNow_5 : decode prog_7_method_53_code 5 = .ok (.istore 6, 2) := by decide +kernel
theorem d_mo_leaveNow_7 : decode prog_7_method_53_code 7 = .ok (.iload 6, 2) := by decide +kernel
theorem d_mo_leaveNow_9 : decode prog_7_method_53_code 9 = .ok (.sipush 144, 3) := by decide +kernel
theorem d_mo_leaveNow_12 : decode prog_7_method_53_code 12 = .ok (.iload_n 3, 1) := by decide +kernel
theorem d_mo_leaveNow_13 : decode prog_7_method_53_code 13 = .ok (.iconst 1, 1) := by decide +kernel
theorem d_mo_leaveNow_14 : decode prog_7_method_53_code 14 = .ok (.iadd, 1) := by decide +kernel
theorem d_mo_leaveNow_15 : decode prog_7_method_53_code 15 = .ok (.imul, 1) := by decide +kernel
theorem d_mo_leaveNow_16 : decode prog_7_method_53_code 16 = .ok (.if_icmp .ge 47, 3) := by decide +kernel
theorem d_mo_leaveNow_19 : decode prog_7_method_53_code 19 = .ok (.aload_n 0, 1) := by decide +kernel
theorem d_mo_leaveNow_20 : decode prog_7_method_53_code 20 = .ok (.iload_n 1, 1) := by decide +kernel
theorem d_mo_leaveNow_21 : decode prog_7_method_53_code 21 = .ok (.iload_n 2, 1) := by decide +kernel
theorem d_mo_leaveNow_22 : decode prog_7_method_53_code 22 = .ok (.iload 6, 2) := by decide +kernel
theorem d_mo_leaveNow_24 : decode prog_7_method_53_code 24 = .ok (.iload 4, 2) := by decide +kernel
theorem d_mo_leaveNow_26 : decode prog_7_method_53_code 26 = .ok (.invokevirtual 220, 3) := by decide +kernel
theorem d_mo_leaveNow_29 : decode prog_7_method_53_code 29 = .ok (.istore 7, 2) := by decide +kernel
theorem d_mo_leaveNow_31 : decode prog_7_method_53_code 31 = .ok (.iload 7, 2) := by decide +kernel
theorem d_mo_leaveNow_33 : decode prog_7_method_53_code 33 = .ok (.sipush (-10001), 3) := by decide +kernel
theorem d_mo_leaveNow_36 : decode prog_7_method_53_code 36 = .ok (.if_icmp .eq 21, 3) := by decide +kernel
theorem d_mo_leaveNow_39 : decode prog_7_method_53_code 39 = .ok (.aload_n 0, 1) := by decide +kernel
theorem d_mo_leaveNow_40 : decode prog_7_method_53_code 40 = .ok (.iload_n 2, 1) := by decide +kernel
theorem d_mo_leaveNow_41 : decode prog_7_method_53_code 41 = .ok (.iload 6, 2) := by decide +kernel
theorem d_mo_leaveNow_43 : decode prog_7_method_53_code 43 = .ok (.iload 7, 2) := by decide +kernel
theorem d_mo_leaveNow_45 : decode prog_7_method_53_code 45 = .ok (.iadd, 1) := by decide +kernel
theorem d_mo_leaveNow_46 : decode prog_7_method_53_code 46 = .ok (.invokevirtual 185, 3) := by decide +kernel
theorem d_mo_leaveNow_49 : decode prog_7_method_53_code 49 = .ok (.iload 5, 2) := by decide +kernel
theorem d_mo_leaveNow_51 : decode prog_7_method_53_code 51 = .ok (.if_icmp .lt 6, 3) := by decide +kernel
theorem d_mo_leaveNow_54 : decode prog_7_method_53_code 54 = .ok (.iload 6, 2) := by decide +kernel
theorem d_mo_leaveNow_56 : decode prog_7_method_53_code 56 = .ok (.ireturn, 1) := by decide +kernel
theorem d_mo_leaveNow_57 : decode prog_7_method_53_code 57 = .ok (.iinc 6 1, 3) := by decide +kernel
theorem d_mo_leaveNow_60 : decode prog_7_method_53_code 60 = .ok (.goto (-53), 3) := by decide +kernel
theorem d_mo_leaveNow_63 : decode prog_7_method_53_code 63 = .ok (.sipush (-10001), 3) := by decide +kernel
theorem d_mo_leaveNow_66 : decode prog_7_method_53_code 66 = .ok (.ireturn, 1) := by decide +kernel
theorem d_mo_leave_0 : decode prog_7_method_54_code 0 = .ok (.aload_n 0, 1) := by decide +kernel
theorem d_mo_leave_1 : decode prog_7_method_54_code 1 = .ok (.iload_n 1, 1) := by decide +kernel
theorem d_mo_leave_2 : decode prog_7_method_54_code 2 = .ok (.invokevirtual 147, 3) := by decide +kernel
theorem d_mo_leave_5 : decode prog_7_method_54_code 5 = .ok (.ifCond .eq 11, 3) := by decide +kernel
theorem d_mo_leave_8 : decode prog_7_method_54_code 8 = .ok (.aload_n 0, 1) := by decide +kernel
theorem d_mo_leave_9 : decode prog_7_method_54_code 9 = .ok (.iload_n 2, 1) := by decide +kernel
theorem d_mo_leave_10 : decode prog_7_method_54_code 10 = .ok (.invokevirtual 147, 3) := by decide +kernel
theorem d_mo_leave_13 : decode prog_7_method_54_code 13 = .ok (.ifCond .ne 7, 3) := by decide +kernel
theorem d_mo_leave_16 : decode prog_7_method_54_code 16 = .ok (.sipush (-10101), 3) := by decide +kernel
theorem d_mo_leave_19 : decode prog_7_method_54_code 19 = .ok (.ireturn, 1) := by decide +kernel
theorem d_mo_leave_20 : decode prog_7_method_54_code 20 = .ok (.iload_n 3, 1) := by decide +kernel
theorem d_mo_leave_21 : decode prog_7_method_54_code 21 = .ok (.invokestatic 194, 3) := by decide +kernel
theorem d_mo_leave_24 : decode prog_7_method_54_code 24 = .ok (.ifCond .eq 33, 3) := by decide +kernel
theorem d_mo_leave_27 : decode prog_7_method_54_code 27 = .ok (.iload 4, 2) := by decide +kernel
theorem d_mo_leave_29 : decode prog_7_method_54_code 29 = .ok (.invokestatic 217, 3) := by decide +kernel
theorem d_mo_leave_32 : decode prog_7_method_54_code 32 = .ok (.ifCond .eq 25, 3) := by decide +kernel
theorem d_mo_leave_35 : decode prog_7_method_54_code 35 = .ok (.iload 5, 2) := by decide +kernel
theorem d_mo_leave_37 : decode prog_7_method_54_code 37 = .ok (.invokestatic 201, 3) := by decide +kernel
theorem d_mo_leave_40 : decode prog_7_method_54_code 40 = .ok (.ifCond .eq 17, 3) := by decide +kernel
theorem d_mo_leave_43 : decode prog_7_method_54_code 43 = .ok (.aload_n 0, 1) := by decide +kernel
theorem d_mo_leave_44 : decode prog_7_method_54_code 44 = .ok (.iload_n 1, 1) := by decide +kernel
theorem d_mo_leave_45 : decode prog_7_method_54_code 45 = .ok (.iload_n 2, 1) := by decide +kernel
theorem d_mo_leave_46 : decode prog_7_method_54_code 46 = .ok (.iload_n 3, 1) := by decide +kernel
theorem d_mo_leave_47 : decode prog_7_method_54_code 47 = .ok (.iload 4, 2) := by decide +kernel
theorem d_mo_leave_49 : decode prog_7_method_54_code 49 = .ok (.iload 5, 2) := by decide +kernel
theorem d_mo_leave_51 : decode prog_7_method_54_code 51 = .ok (.invokevirtual 223, 3) := by decide +kernel
theorem d_mo_leave_54 : decode prog_7_method_54_code 54 = .ok (.goto 6, 3) := by decide +kernel
theorem d_mo_leave_57 : decode prog_7_method_54_code 57 = .ok (.sipush (-10102), 3) := by decide +kernel
theorem d_mo_leave_60 : decode prog_7_method_54_code 60 = .ok (.ireturn, 1) := by decide +kernel
theorem d_mo_mean_0 : decode prog_7_method_55_code 0 = .ok (.aload_n 0, 1) := by decide +kernel
theorem d_mo_mean_1 : decode prog_7_method_55_code 1 = .ok (.iload_n 1, 1) := by decide +kernel
theorem d_mo_mean_2 : decode prog_7_method_55_code 2 = .ok (.invokevirtual 147, 3) := by decide +kernel
theorem d_mo_mean_5 : decode prog_7_method_55_code 5 = .ok (.ifCond .ne 7, 3) := by decide +kernel
theorem d_mo_mean_8 : decode prog_7_method_55_code 8 = .ok (.sipush (-10101), 3) := by decide +kernel
theorem d_mo_mean_11 : decode prog_7_method_55_code 11 = .ok (.ireturn, 1) := by decide +kernel
theorem d_mo_mean_12 : decode prog_7_method_55_code 12 = .ok (.iload_n 2, 1) := by decide +kernel
theorem d_mo_mean_13 : decode prog_7_method_55_code 13 = .ok (.invokestatic 226, 3) := by decide +kernel
theorem d_mo_mean_16 : decode prog_7_method_55_code 16 = .ok (.ifCond .ne 7, 3) := by decide +kernel
theorem d_mo_mean_19 : decode prog_7_method_55_code 19 = .ok (.sipush (-10102), 3) := by decide +kernel
theorem d_mo_mean_22 : decode prog_7_method_55_code 22 = .ok (.ireturn, 1) := by decide +kernel
theorem d_mo_mean_23 : decode prog_7_method_55_code 23 = .ok (.aload_n 0, 1) := by decide +kernel
theorem d_mo_mean_24 : decode prog_7_method_55_code 24 = .ok (.getfield 13, 3) := by decide +kernel
theorem d_mo_mean_27 : decode prog_7_method_55_code 27 = .ok (.iload_n 1, 1) := by decide +kernel
theorem d_mo_mean_28 : decode prog_7_method_55_code 28 = .ok (.iaload, 1) := by decide +kernel
theorem d_mo_mean_29 : decode prog_7_method_55_code 29 = .ok (.istore_n 3, 1) := by decide +kernel
theorem d_mo_mean_30 : decode prog_7_method_55_code 30 = .ok (.aload_n 0, 1) := by decide +kernel
theorem d_mo_mean_31 : decode prog_7_method_55_code 31 = .ok (.getfield 13, 3) := by decide +kernel
theorem d_mo_mean_34 : decode prog_7_method_55_code 34 = .ok (.iload_n 1, 1) := by decide +kernel
theorem d_mo_mean_35 : decode prog_7_method_55_code 35 = .ok (.iload_n 2, 1) := by decide +kernel
theorem d_mo_mean_36 : decode prog_7_method_55_code 36 = .ok (.iastore, 1) := by decide +kernel
theorem d_mo_mean_37 : decode prog_7_method_55_code 37 = .ok (.iload_n 3, 1) := by decide +kernel
theorem d_mo_mean_38 : decode prog_7_method_55_code 38 = .ok (.ireturn, 1) := by decide +kernel
theorem d_mo_mark_0 : decode prog_7_method_56_code 0 = .ok (.aload_n 0, 1) := by decide +kernel
theorem d_mo_mark_1 : decode prog_7_method_56_code 1 = .ok (.iload_n 1, 1) := by decide +kernel
theorem d_mo_mark_2 : decode prog_7_method_56_code 2 = .ok (.invokevirtual 147, 3) := by decide +kernel
theorem d_mo_mark_5 : decode prog_7_method_56_code 5 = .ok (.ifCond .ne 7, 3) := by decide +kernel
theorem d_mo_mark_8 : decode prog_7_method_56_code 8 = .ok (.sipush (-10101), 3) := by decide +kernel
theorem d_mo_mark_11 : decode prog_7_method_56_code 11 = .ok (.ireturn, 1) := by decide +kernel
theorem d_mo_mark_12 : decode prog_7_method_56_code 12 = .ok (.iload_n 2, 1) := by decide +kernel
theorem d_mo_mark_13 : decode prog_7_method_56_code 13 = .ok (.invokestatic 226, 3) := by decide +kernel
theorem d_mo_mark_16 : decode prog_7_method_56_code 16 = .ok (.ifCond .ne 7, 3) := by decide +kernel
theorem d_mo_mark_19 : decode prog_7_method_56_code 19 = .ok (.sipush (-10102), 3) := by decide +kernel
theorem d_mo_mark_22 : decode prog_7_method_56_code 22 = .ok (.ireturn, 1) := by decide +kernel
theorem d_mo_mark_23 : decode prog_7_method_56_code 23 = .ok (.aload_n 0, 1) := by decide +kernel
theorem d_mo_mark_24 : decode prog_7_method_56_code 24 = .ok (.getfield 16, 3) := by decide +kernel
theorem d_mo_mark_27 : decode prog_7_method_56_code 27 = .ok (.iload_n 1, 1) := by decide +kernel
theorem d_mo_mark_28 : decode prog_7_method_56_code 28 = .ok (.iaload, 1) := by decide +kernel
theorem d_mo_mark_29 : decode prog_7_method_56_code 29 = .ok (.istore_n 3, 1) := by decide +kernel
theorem d_mo_mark_30 : decode prog_7_method_56_code 30 = .ok (.aload_n 0, 1) := by decide +kernel
theorem d_mo_mark_31 : decode prog_7_method_56_code 31 = .ok (.getfield 16, 3) := by decide +kernel
theorem d_mo_mark_34 : decode prog_7_method_56_code 34 = .ok (.iload_n 1, 1) := by decide +kernel
theorem d_mo_mark_35 : decode prog_7_method_56_code 35 = .ok (.iload_n 2, 1) := by decide +kernel
theorem d_mo_mark_36 : decode prog_7_method_56_code 36 = .ok (.iastore, 1) := by decide +kernel
theorem d_mo_mark_37 : decode prog_7_method_56_code 37 = .ok (.iload_n 3, 1) := by decide +kernel
theorem d_mo_mark_38 : decode prog_7_method_56_code 38 = .ok (.ireturn, 1) := by decide +kernel
theorem d_mo_ratio_0 : decode prog_7_method_57_code 0 = .ok (.aload_n 0, 1) := by decide +kernel
theorem d_mo_ratio_1 : decode prog_7_method_57_code 1 = .ok (.iload_n 1, 1) := by decide +kernel
theorem d_mo_ratio_2 : decode prog_7_method_57_code 2 = .ok (.invokevirtual 147, 3) := by decide +kernel
theorem d_mo_ratio_5 : decode prog_7_method_57_code 5 = .ok (.ifCond .ne 7, 3) := by decide +kernel
theorem d_mo_ratio_8 : decode prog_7_method_57_code 8 = .ok (.sipush (-10101), 3) := by decide +kernel
theorem d_mo_ratio_11 : decode prog_7_method_57_code 11 = .ok (.ireturn, 1) := by decide +kernel
theorem d_mo_ratio_12 : decode prog_7_method_57_code 12 = .ok (.iload_n 2, 1) := by decide +kernel
theorem d_mo_ratio_13 : decode prog_7_method_57_code 13 = .ok (.invokestatic 226, 3) := by decide +kernel
theorem d_mo_ratio_16 : decode prog_7_method_57_code 16 = .ok (.ifCond .ne 7, 3) := by decide +kernel
theorem d_mo_ratio_19 : decode prog_7_method_57_code 19 = .ok (.sipush (-10102), 3) := by decide +kernel
theorem d_mo_ratio_22 : decode prog_7_method_57_code 22 = .ok (.ireturn, 1) := by decide +kernel
theorem d_mo_ratio_23 : decode prog_7_method_57_code 23 = .ok (.aload_n 0, 1) := by decide +kernel
theorem d_mo_ratio_24 : decode prog_7_method_57_code 24 = .ok (.getfield 19, 3) := by decide +kernel
theorem d_mo_ratio_27 : decode prog_7_method_57_code 27 = .ok (.iload_n 1, 1) := by decide +kernel
theorem d_mo_ratio_28 : decode prog_7_method_57_code 28 = .ok (.iaload, 1) := by decide +kernel
theorem d_mo_ratio_29 : decode prog_7_method_57_code 29 = .ok (.istore_n 3, 1) := by decide +kernel
theorem d_mo_ratio_30 : decode prog_7_method_57_code 30 = .ok (.aload_n 0, 1) := by decide +kernel
theorem d_mo_ratio_31 : decode prog_7_method_57_code 31 = .ok (.getfield 19, 3) := by decide +kernel
theorem d_mo_ratio_34 : decode prog_7_method_57_code 34 = .ok (.iload_n 1, 1) := by decide +kernel
theorem d_mo_ratio_35 : decode prog_7_method_57_code 35 = .ok (.iload_n 2, 1) := by decide +kernel
theorem d_mo_ratio_36 : decode prog_7_method_57_code 36 = .ok (.iastore, 1) := by decide +kernel
theorem d_mo_ratio_37 : decode prog_7_method_57_code 37 = .ok (.iload_n 3, 1) := by decide +kernel
theorem d_mo_ratio_38 : decode prog_7_method_57_code 38 = .ok (.ireturn, 1) := by decide +kernel
theorem d_mo_add_0 : decode prog_7_method_58_code 0 = .ok (.aload_n 0, 1) := by decide +kernel
theorem d_mo_add_1 : decode prog_7_method_58_code 1 = .ok (.iload_n 1, 1) := by decide +kernel
theorem d_mo_add_2 : decode prog_7_method_58_code 2 = .ok (.invokevirtual 147, 3) := by decide +kernel
theorem d_mo_add_5 : decode prog_7_method_58_code 5 = .ok (.ifCond .ne 7, 3) := by decide +kernel
theorem d_mo_add_8 : decode prog_7_method_58_code 8 = .ok (.sipush (-10101), 3) := by decide +kernel
theorem d_mo_add_11 : decode prog_7_method_58_code 11 = .ok (.ireturn, 1) := by decide +kernel
theorem d_mo_add_12 : decode prog_7_method_58_code 12 = .ok (.iload_n 2, 1) := by decide +kernel
theorem d_mo_add_13 : decode prog_7_method_58_code 13 = .ok (.iconst 1, 1) := by decide +kernel
theorem d_mo_add_14 : decode prog_7_method_58_code 14 = .ok (.bipush 99, 2) := by decide +kernel
theorem d_mo_add_16 : decode prog_7_method_58_code 16 = .ok (.invokestatic 93, 3) := by decide +kernel
theorem d_mo_add_19 : decode prog_7_method_58_code 19 = .ok (.ifCond .eq 21, 3) := by decide +kernel
theorem d_mo_add_22 : decode prog_7_method_58_code 22 = .ok (.iload_n 3, 1) := by decide +kernel
theorem d_mo_add_23 : decode prog_7_method_58_code 23 = .ok (.invokestatic 226, 3) := by decide +kernel
theorem d_mo_add_26 : decode prog_7_method_58_code 26 = .ok (.ifCond .eq 14, 3) := by decide +kernel
theorem d_mo_add_29 : decode prog_7_method_58_code 29 = .ok (.iload 4, 2) := by decide +kernel
theorem d_mo_add_31 : decode prog_7_method_58_code 31 = .ok (.iconst 0, 1) := by decide +kernel
theorem d_mo_add_32 : decode prog_7_method_58_code 32 = .ok (.bipush 63, 2) := by decide +kernel
theorem d_mo_add_34 : decode prog_7_method_58_code 34 = .ok (.invokestatic 93, 3) := by decide +kernel
theorem d_mo_add_37 : decode prog_7_method_58_code 37 = .ok (.ifCond .ne 7, 3) := by decide +kernel
theorem d_mo_add_40 : decode prog_7_method_58_code 40 = .ok (.sipush (-10102), 3) := by decide +kernel
theorem d_mo_add_43 : decode prog_7_method_58_code 43 = .ok (.ireturn, 1) := by decide +kernel
theorem d_mo_add_44 : decode prog_7_method_58_code 44 = .ok (.aload_n 0, 1) := by decide +kernel
theorem d_mo_add_45 : decode prog_7_method_58_code 45 = .ok (.getfield 22, 3) := by decide +kernel
theorem d_mo_add_48 : decode prog_7_method_58_code 48 = .ok (.iload_n 1, 1) := by decide +kernel
theorem d_mo_add_49 : decode prog_7_method_58_code 49 = .ok (.iaload, 1) := by decide +kernel
theorem d_mo_add_50 : decode prog_7_method_58_code 50 = .ok (.iconst 3, 1) := by decide +kernel
theorem d_mo_add_51 : decode prog_7_method_58_code 51 = .ok (.if_icmp .ne 7, 3) := by decide +kernel
theorem d_mo_add_54 : decode prog_7_method_58_code 54 = .ok (.sipush (-10104), 3) := by decide +kernel
theorem d_mo_add_57 : decode prog_7_method_58_code 57 = .ok (.ireturn, 1) := by decide +kernel
theorem d_mo_add_58 : decode prog_7_method_58_code 58 = .ok (.bipush 9, 2) := by decide +kernel
theorem d_mo_add_60 : decode prog_7_method_58_code 60 = .ok (.iload_n 1, 1) := by decide +kernel
theorem d_mo_add_61 : decode prog_7_method_58_code 61 = .ok (.imul, 1) := by decide +kernel
theorem d_mo_add_62 : decode prog_7_method_58_code 62 = .ok (.iconst 3, 1) := by decide +kernel
theorem d_mo_add_63 : decode prog_7_method_58_code 63 = .ok (.aload_n 0, 1) := by decide +kernel
theorem d_mo_add_64 : decode prog_7_method_58_code 64 = .ok (.getfield 22, 3) := by decide +kernel
theorem d_mo_add_67 : decode prog_7_method_58_code 67 = .ok (.iload_n 1, 1) := by decide +kernel
theorem d_mo_add_68 : decode prog_7_method_58_code 68 = .ok (.iaload, 1) := by decide +kernel
theorem d_mo_add_69 : decode prog_7_method_58_code 69 = .ok (.imul, 1) := by decide +kernel
theorem d_mo_add_70 : decode prog_7_method_58_code 70 = .ok (.iadd, 1) := by decide +kernel
theorem d_mo_add_71 : decode prog_7_method_58_code 71 = .ok (.istore 5, 2) := by decide +kernel
theorem d_mo_add_73 : decode prog_7_method_58_code 73 = .ok (.aload_n 0, 1) := by decide +kernel
theorem d_mo_add_74 : decode prog_7_method_58_code 74 = .ok (.getfield 25, 3) := by decide +kernel
theorem d_mo_add_77 : decode prog_7_method_58_code 77 = .ok (.iload 5, 2) := by decide +kernel
theorem d_mo_add_79 : decode prog_7_method_58_code 79 = .ok (.iload_n 2, 1) := by decide +kernel
theorem d_mo_add_80 : decode prog_7_method_58_code 80 = .ok (.iastore, 1) := by decide +kernel
theorem d_mo_add_81 : decode prog_7_method_58_code 81 = .ok (.aload_n 0, 1) := by decide +kernel
theorem d_mo_add_82 : decode prog_7_method_58_code 82 = .ok (.getfield 25, 3) := by decide +kernel
theorem d_mo_add_85 : decode prog_7_method_58_code 85 = .ok (.iload 5, 2) := by decide +kernel
theorem d_mo_add_87 : decode prog_7_method_58_code 87 = .ok (.iconst 1, 1) := by decide +kernel
theorem d_mo_add_88 : decode prog_7_method_58_code 88 = .ok (.iadd, 1) := by decide +kernel
theorem d_mo_add_89 : decode prog_7_method_58_code 89 = .ok (.iload_n 3, 1) := by decide +kernel
theorem d_mo_add_90 : decode prog_7_method_58_code 90 = .ok (.iastore, 1) := by decide +kernel
theorem d_mo_add_91 : decode prog_7_method_58_code 91 = .ok (.aload_n 0, 1) := by decide +kernel
theorem d_mo_add_92 : decode prog_7_method_58_code 92 = .ok (.getfield 25, 3) := by decide +kernel
theorem d_mo_add_95 : decode prog_7_method_58_code 95 = .ok (.iload 5, 2) := by decide +kernel
theorem d_mo_add_97 : decode prog_7_method_58_code 97 = .ok (.iconst 2, 1) := by decide +kernel
theorem d_mo_add_98 : decode prog_7_method_58_code 98 = .ok (.iadd, 1) := by decide +kernel
theorem d_mo_add_99 : decode prog_7_method_58_code 99 = .ok (.iload 4, 2) := by decide +kernel
theorem d_mo_add_101 : decode prog_7_method_58_code 101 = .ok (.iastore, 1) := by decide +kernel
theorem d_mo_add_102 : decode prog_7_method_58_code 102 = .ok (.aload_n 0, 1) := by decide +kernel
theorem d_mo_add_103 : decode prog_7_method_58_code 103 = .ok (.getfield 22, 3) := by decide +kernel
theorem d_mo_add_106 : decode prog_7_method_58_code 106 = .ok (.iload_n 1, 1) := by decide +kernel
theorem d_mo_add_107 : decode prog_7_method_58_code 107 = .ok (.dup2, 1) := by decide +kernel
theorem d_mo_add_108 : decode prog_7_method_58_code 108 = .ok (.iaload, 1) := by decide +kernel
theorem d_mo_add_109 : decode prog_7_method_58_code 109 = .ok (.iconst 1, 1) := by decide +kernel
theorem d_mo_add_110 : decode prog_7_method_58_code 110 = .ok (.iadd, 1) := by decide +kernel
theorem d_mo_add_111 : decode prog_7_method_58_code 111 = .ok (.iastore, 1) := by decide +kernel
theorem d_mo_add_112 : decode prog_7_method_58_code 112 = .ok (.aload_n 0, 1) := by decide +kernel
theorem d_mo_add_113 : decode prog_7_method_58_code 113 = .ok (.getfield 22, 3) := by decide +kernel
theorem d_mo_add_116 : decode prog_7_method_58_code 116 = .ok (.iload_n 1, 1) := by decide +kernel
theorem d_mo_add_117 : decode prog_7_method_58_code 117 = .ok (.iaload, 1) := by decide +kernel
theorem d_mo_add_118 : decode prog_7_method_58_code 118 = .ok (.ireturn, 1) := by decide +kernel
theorem d_mo_take_0 : decode prog_7_method_59_code 0 = .ok (.aload_n 0, 1) := by decide +kernel
theorem d_mo_take_1 : decode prog_7_method_59_code 1 = .ok (.iload_n 1, 1) := by decide +kernel
theorem d_mo_take_2 : decode prog_7_method_59_code 2 = .ok (.iload_n 2, 1) := by decide +kernel
theorem d_mo_take_3 : decode prog_7_method_59_code 3 = .ok (.invokevirtual 160, 3) := by decide +kernel
theorem d_mo_take_6 : decode prog_7_method_59_code 6 = .ok (.ifCond .ne 7, 3) := by decide +kernel
theorem d_mo_take_9 : decode prog_7_method_59_code 9 = .ok (.sipush (-10101), 3) := by decide +kernel
theorem d_mo_take_12 : decode prog_7_method_59_code 12 = .ok (.ireturn, 1) := by decide +kernel
theorem d_mo_take_13 : decode prog_7_method_59_code 13 = .ok (.bipush 9, 2) := by decide +kernel
theorem d_mo_take_15 : decode prog_7_method_59_code 15 = .ok (.iload_n 1, 1) := by decide +kernel
theorem d_mo_take_16 : decode prog_7_method_59_code 16 = .ok (.imul, 1) := by decide +kernel
theorem d_mo_take_17 : decode prog_7_method_59_code 17 = .ok (.iconst 3, 1) := by decide +kernel
theorem d_mo_take_18 : decode prog_7_method_59_code 18 = .ok (.iload_n 2, 1) := by decide +kernel
theorem d_mo_take_19 : decode prog_7_method_59_code 19 = .ok (.imul, 1) := by decide +kernel
theorem d_mo_take_20 : decode prog_7_method_59_code 20 = .ok (.iadd, 1) := by decide +kernel
theorem d_mo_take_21 : decode prog_7_method_59_code 21 = .ok (.istore_n 3, 1) := by decide +kernel
theorem d_mo_take_22 : decode prog_7_method_59_code 22 = .ok (.iload_n 3, 1) := by decide +kernel
theorem d_mo_take_23 : decode prog_7_method_59_code 23 = .ok (.bipush 9, 2) := by decide +kernel
theorem d_mo_take_25 : decode prog_7_method_59_code 25 = .ok (.iload_n 1, 1) := by decide +kernel
theorem d_mo_take_26 : decode prog_7_method_59_code 26 = .ok (.imul, 1) := by decide +kernel
theorem d_mo_take_27 : decode prog_7_method_59_code 27 = .ok (.bipush 6, 2) := by decide +kernel
theorem d_mo_take_29 : decode prog_7_method_59_code 29 = .ok (.iadd, 1) := by decide +kernel
theorem d_mo_take_30 : decode prog_7_method_59_code 30 = .ok (.if_icmp .ge 23, 3) := by decide +kernel
theorem d_mo_take_33 : decode prog_7_method_59_code 33 = .ok (.aload_n 0, 1) := by decide +kernel
theorem d_mo_take_34 : decode prog_7_method_59_code 34 = .ok (.getfield 25, 3) := by decide +kernel
theorem d_mo_take_37 : decode prog_7_method_59_code 37 = .ok (.iload_n 3, 1) := by decide +kernel
theorem d_mo_take_38 : decode prog_7_method_59_code 38 = .ok (.aload_n 0, 1) := by decide +kernel
theorem d_mo_take_39 : decode prog_7_method_59_code 39 = .ok (.getfield 25, 3) := by decide +kernel
theorem d_mo_take_42 : decode prog_7_method_59_code 42 = .ok (.iload_n 3, 1) := by decide +kernel
theorem d_mo_take_43 : decode prog_7_method_59_code 43 = .ok (.iconst 3, 1) := by decide +kernel
theorem d_mo_take_44 : decode prog_7_method_59_code 44 = .ok (.iadd, 1) := by decide +kernel
theorem d_mo_take_45 : decode prog_7_method_59_code 45 = .ok (.iaload, 1) := by decide +kernel
theorem d_mo_take_46 : decode prog_7_method_59_code 46 = .ok (.iastore, 1) := by decide +kernel
theorem d_mo_take_47 : decode prog_7_method_59_code 47 = .ok (.iinc 3 1, 3) := by decide +kernel
theorem d_mo_take_50 : decode prog_7_method_59_code 50 = .ok (.goto (-28), 3) := by decide +kernel
theorem d_mo_take_53 : decode prog_7_method_59_code 53 = .ok (.aload_n 0, 1) := by decide +kernel
theorem d_mo_take_54 : decode prog_7_method_59_code 54 = .ok (.getfield 22, 3) := by decide +kernel
theorem d_mo_take_57 : decode prog_7_method_59_code 57 = .ok (.iload_n 1, 1) := by decide +kernel
theorem d_mo_take_58 : decode prog_7_method_59_code 58 = .ok (.dup2, 1) := by decide +kernel
theorem d_mo_take_59 : decode prog_7_method_59_code 59 = .ok (.iaload, 1) := by decide +kernel
theorem d_mo_take_60 : decode prog_7_method_59_code 60 = .ok (.iconst 1, 1) := by decide +kernel
theorem d_mo_take_61 : decode prog_7_method_59_code 61 = .ok (.isub, 1) := by decide +kernel
theorem d_mo_take_62 : decode prog_7_method_59_code 62 = .ok (.iastore, 1) := by decide +kernel
theorem d_mo_take_63 : decode prog_7_method_59_code 63 = .ok (.aload_n 0, 1) := by decide +kernel
theorem d_mo_take_64 : decode prog_7_method_59_code 64 = .ok (.getfield 22, 3) := by decide +kernel
theorem d_mo_take_67 : decode prog_7_method_59_code 67 = .ok (.iload_n 1, 1) := by decide +kernel
theorem d_mo_take_68 : decode prog_7_method_59_code 68 = .ok (.iaload, 1) := by decide +kernel
theorem d_mo_take_69 : decode prog_7_method_59_code 69 = .ok (.ireturn, 1) := by decide +kernel
theorem d_mo_be_0 : decode prog_7_method_60_code 0 = .ok (.aload_n 0, 1) := by decide +kernel
theorem d_mo_be_1 : decode prog_7_method_60_code 1 = .ok (.iload_n 1, 1) := by decide +kernel
theorem d_mo_be_2 : decode prog_7_method_60_code 2 = .ok (.invokevirtual 147, 3) := by decide +kernel
theorem d_mo_be_5 : decode prog_7_method_60_code 5 = .ok (.ifCond .ne 7, 3) := by decide +kernel
theorem d_mo_be_8 : decode prog_7_method_60_code 8 = .ok (.sipush (-10101), 3) := by decide +kernel
theorem d_mo_be_11 : decode prog_7_method_60_code 11 = .ok (.ireturn, 1) := by decide +kernel
theorem d_mo_be_12 : decode prog_7_method_60_code 12 = .ok (.iload_n 2, 1) := by decide +kernel
theorem d_mo_be_13 : decode prog_7_method_60_code 13 = .ok (.iconst 0, 1) := by decide +kernel
theorem d_mo_be_14 : decode prog_7_method_60_code 14 = .ok (.iconst 4, 1) := by decide +kernel
theorem d_mo_be_15 : decode prog_7_method_60_code 15 = .ok (.invokestatic 93, 3) := by decide +kernel
theorem d_mo_be_18 : decode prog_7_method_60_code 18 = .ok (.ifCond .eq 12, 3) := by decide +kernel
theorem d_mo_be_21 : decode prog_7_method_60_code 21 = .ok (.iload_n 1, 1) := by decide +kernel
theorem d_mo_be_22 : decode prog_7_method_60_code 22 = .ok (.ifCond .ne 12, 3) := by decide +kernel
theorem d_mo_be_25 : decode prog_7_method_60_code 25 = .ok (.iload_n 2, 1) := by decide +kernel
theorem d_mo_be_26 : decode prog_7_method_60_code 26 = .ok (.iconst 3, 1) := by decide +kernel
theorem d_mo_be_27 : decode prog_7_method_60_code 27 = .ok (.if_icmp .ne 7, 3) := by decide +kernel
theorem d_mo_be_30 : decode prog_7_method_60_code 30 = .ok (.sipush (-10102), 3) := by decide +kernel
theorem d_mo_be_33 : decode prog_7_method_60_code 33 = .ok (.ireturn, 1) := by decide +kernel
theorem d_mo_be_34 : decode prog_7_method_60_code 34 = .ok (.aload_n 0, 1) := by decide +kernel
theorem d_mo_be_35 : decode prog_7_method_60_code 35 = .ok (.getfield 7, 3) := by decide +kernel
theorem d_mo_be_38 : decode prog_7_method_60_code 38 = .ok (.iload_n 1, 1) := by decide +kernel
theorem d_mo_be_39 : decode prog_7_method_60_code 39 = .ok (.iaload, 1) := by decide +kernel
theorem d_mo_be_40 : decode prog_7_method_60_code 40 = .ok (.istore_n 3, 1) := by decide +kernel
theorem d_mo_be_41 : decode prog_7_method_60_code 41 = .ok (.aload_n 0, 1) := by decide +kernel
theorem d_mo_be_42 : decode prog_7_method_60_code 42 = .ok (.getfield 7, 3) := by decide +kernel
theorem d_mo_be_45 : decode prog_7_method_60_code 45 = .ok (.iload_n 1, 1) := by decide +kernel
theorem d_mo_be_46 : decode prog_7_method_60_code 46 = .ok (.iload_n 2, 1) := by decide +kernel
theorem d_mo_be_47 : decode prog_7_method_60_code 47 = .ok (.iastore, 1) := by decide +kernel
theorem d_mo_be_48 : decode prog_7_method_60_code 48 = .ok (.iload_n 3, 1) := by decide +kernel
theorem d_mo_be_49 : decode prog_7_method_60_code 49 = .ok (.ireturn, 1) := by decide +kernel
theorem d_mo_could_0 : decode prog_7_method_61_code 0 = .ok (.iload_n 1, 1) := by decide +kernel
theorem d_mo_could_1 : decode prog_7_method_61_code 1 = .ok (.tableswitch 65 0 2 #[27, 43, 54], 27) := by decide +kernel
theorem d_mo_could_28 : decode prog_7_method_61_code 28 = .ok (.iload_n 0, 1) := by decide +kernel
theorem d_mo_could_29 : decode prog_7_method_61_code 29 = .ok (.iconst 1, 1) := by decide +kernel
theorem d_mo_could_30 : decode prog_7_method_61_code 30 = .ok (.if_icmp .eq 8, 3) := by decide +kernel
theorem d_mo_could_33 : decode prog_7_method_61_code 33 = .ok (.iload_n 0, 1) := by decide +kernel
theorem d_mo_could_34 : decode prog_7_method_61_code 34 = .ok (.iconst 2, 1) := by decide +kernel
theorem d_mo_could_35 : decode prog_7_method_61_code 35 = .ok (.if_icmp .ne 7, 3) := by decide +kernel
theorem d_mo_could_38 : decode prog_7_method_61_code 38 = .ok (.iconst 1, 1) := by decide +kernel
theorem d_mo_could_39 : decode prog_7_method_61_code 39 = .ok (.goto 4, 3) := by decide +kernel
theorem d_mo_could_42 : decode prog_7_method_61_code 42 = .ok (.iconst 0, 1) := by decide +kernel
theorem d_mo_could_43 : decode prog_7_method_61_code 43 = .ok (.ireturn, 1) := by decide +kernel
theorem d_mo_could_44 : decode prog_7_method_61_code 44 = .ok (.iload_n 0, 1) := by decide +kernel
theorem d_mo_could_45 : decode prog_7_method_61_code 45 = .ok (.iconst 2, 1) := by decide +kernel
theorem d_mo_could_46 : decode prog_7_method_61_code 46 = .ok (.if_icmp .ne 7, 3) := by decide +kernel
theorem d_mo_could_49 : decode prog_7_method_61_code 49 = .ok (.iconst 1, 1) := by decide +kernel
theorem d_mo_could_50 : decode prog_7_method_61_code 50 = .ok (.goto 4, 3) := by decide +kernel
theorem d_mo_could_53 : decode prog_7_method_61_code 53 = .ok (.iconst 0, 1) := by decide +kernel
theorem d_mo_could_54 : decode prog_7_method_61_code 54 = .ok (.ireturn, 1) := by decide +kernel
theorem d_mo_could_55 : decode prog_7_method_61_code 55 = .ok (.iload_n 0, 1) := by decide +kernel
theorem d_mo_could_56 : decode prog_7_method_61_code 56 = .ok (.iconst 3, 1) := by decide +kernel
theorem d_mo_could_57 : decode prog_7_method_61_code 57 = .ok (.if_icmp .ne 7, 3) := by decide +kernel
theorem d_mo_could_60 : decode prog_7_method_61_code 60 = .ok (.iconst 1, 1) := by decide +kernel
theorem d_mo_could_61 : decode prog_7_method_61_code 61 = .ok (.goto 4, 3) := by decide +kernel
theorem d_mo_could_64 : decode prog_7_method_61_code 64 = .ok (.iconst 0, 1) := by decide +kernel
theorem d_mo_could_65 : decode prog_7_method_61_code 65 = .ok (.ireturn, 1) := by decide +kernel
theorem d_mo_could_66 : decode prog_7_method_61_code 66 = .ok (.iload_n 0, 1) := by decide +kernel
theorem d_mo_could_67 : decode prog_7_method_61_code 67 = .ok (.iconst 4, 1) := by decide +kernel
theorem d_mo_could_68 : decode prog_7_method_61_code 68 = .ok (.if_icmp .ne 7, 3) := by decide +kernel
theorem d_mo_could_71 : decode prog_7_method_61_code 71 = .ok (.iconst 1, 1) := by decide +kernel
theorem d_mo_could_72 : decode prog_7_method_61_code 72 = .ok (.goto 4, 3) := by decide +kernel
theorem d_mo_could_75 : decode prog_7_method_61_code 75 = .ok (.iconst 0, 1) := by decide +kernel
theorem d_mo_could_76 : decode prog_7_method_61_code 76 = .ok (.ireturn, 1) := by decide +kernel
theorem d_mo_see_0 : decode prog_7_method_62_code 0 = .ok (.aload_n 0, 1) := by decide +kernel
theorem d_mo_see_1 : decode prog_7_method_62_code 1 = .ok (.iload_n 1, 1) := by decide +kernel
theorem d_mo_see_2 : decode prog_7_method_62_code 2 = .ok (.invokevirtual 147, 3) := by decide +kernel
theorem d_mo_see_5 : decode prog_7_method_62_code 5 = .ok (.ifCond .ne 7, 3) := by decide +kernel
theorem d_mo_see_8 : decode prog_7_method_62_code 8 = .ok (.sipush (-10101), 3) := by decide +kernel
theorem d_mo_see_11 : decode prog_7_method_62_code 11 = .ok (.ireturn, 1) := by decide +kernel
theorem d_mo_see_12 : decode prog_7_method_62_code 12 = .ok (.iload_n 2, 1) := by decide +kernel
theorem d_mo_see_13 : decode prog_7_method_62_code 13 = .ok (.iconst 0, 1) := by decide +kernel
theorem d_mo_see_14 : decode prog_7_method_62_code 14 = .ok (.iconst 3, 1) := by decide +kernel
theorem d_mo_see_15 : decode prog_7_method_62_code 15 = .ok (.invokestatic 93, 3) := by decide +kernel
theorem d_mo_see_18 : decode prog_7_method_62_code 18 = .ok (.ifCond .ne 7, 3) := by decide +kernel
theorem d_mo_see_21 : decode prog_7_method_62_code 21 = .ok (.sipush (-10102), 3) := by decide +kernel
theorem d_mo_see_24 : decode prog_7_method_62_code 24 = .ok (.ireturn, 1) := by decide +kernel
theorem d_mo_see_25 : decode prog_7_method_62_code 25 = .ok (.aload_n 0, 1) := by decide +kernel
theorem d_mo_see_26 : decode prog_7_method_62_code 26 = .ok (.getfield 144, 3) := by decide +kernel
theorem d_mo_see_29 : decode prog_7_method_62_code 29 = .ok (.bipush 6, 2) := by decide +kernel
theorem d_mo_see_31 : decode prog_7_method_62_code 31 = .ok (.if_icmp .ne 7, 3) := by decide +kernel
theorem d_mo_see_34 : decode prog_7_method_62_code 34 = .ok (.sipush (-10104), 3) := by decide +kernel
theorem d_mo_see_37 : decode prog_7_method_62_code 37 = .ok (.ireturn, 1) := by decide +kernel
theorem d_mo_see_38 : decode prog_7_method_62_code 38 = .ok (.aload_n 0, 1) := by decide +kernel
theorem d_mo_see_39 : decode prog_7_method_62_code 39 = .ok (.getfield 31, 3) := by decide +kernel
theorem d_mo_see_42 : decode prog_7_method_62_code 42 = .ok (.aload_n 0, 1) := by decide +kernel
theorem d_mo_see_43 : decode prog_7_method_62_code 43 = .ok (.getfield 144, 3) := by decide +kernel
theorem d_mo_see_46 : decode prog_7_method_62_code 46 = .ok (.iload_n 1, 1) := by decide +kernel
theorem d_mo_see_47 : decode prog_7_method_62_code 47 = .ok (.iastore, 1) := by decide +kernel
theorem d_mo_see_48 : decode prog_7_method_62_code 48 = .ok (.aload_n 0, 1) := by decide +kernel
theorem d_mo_see_49 : decode prog_7_method_62_code 49 = .ok (.getfield 34, 3) := by decide +kernel
theorem d_mo_see_52 : decode prog_7_method_62_code 52 = .ok (.aload_n 0, 1) := by decide +kernel
theorem d_mo_see_53 : decode prog_7_method_62_code 53 = .ok (.getfield 144, 3) := by decide +kernel
theorem d_mo_see_56 : decode prog_7_method_62_code 56 = .ok (.iload_n 2, 1) := by decide +kernel
theorem d_mo_see_57 : decode prog_7_method_62_code 57 = .ok (.iastore, 1) := by decide +kernel
theorem d_mo_see_58 : decode prog_7_method_62_code 58 = .ok (.aload_n 0, 1) := by decide +kernel
theorem d_mo_see_59 : decode prog_7_method_62_code 59 = .ok (.getfield 37, 3) := by decide +kernel
theorem d_mo_see_62 : decode prog_7_method_62_code 62 = .ok (.aload_n 0, 1) := by decide +kernel
theorem d_mo_see_63 : decode prog_7_method_62_code 63 = .ok (.getfield 144, 3) := by decide +kernel
theorem d_mo_see_66 : decode prog_7_method_62_code 66 = .ok (.iload_n 3, 1) := by decide +kernel
theorem d_mo_see_67 : decode prog_7_method_62_code 67 = .ok (.ifCond .eq 7, 3) := by decide +kernel
theorem d_mo_see_70 : decode prog_7_method_62_code 70 = .ok (.iconst 1, 1) := by decide +kernel
theorem d_mo_see_71 : decode prog_7_method_62_code 71 = .ok (.goto 4, 3) := by decide +kernel
theorem d_mo_see_74 : decode prog_7_method_62_code 74 = .ok (.iconst 0, 1) := by decide +kernel
theorem d_mo_see_75 : decode prog_7_method_62_code 75 = .ok (.iastore, 1) := by decide +kernel
theorem d_mo_see_76 : decode prog_7_method_62_code 76 = .ok (.aload_n 0, 1) := by decide +kernel
theorem d_mo_see_77 : decode prog_7_method_62_code 77 = .ok (.dup, 1) := by decide +kernel
theorem d_mo_see_78 : decode prog_7_method_62_code 78 = .ok (.getfield 144, 3) := by decide +kernel
theorem d_mo_see_81 : decode prog_7_method_62_code 81 = .ok (.iconst 1, 1) := by decide +kernel
theorem d_mo_see_82 : decode prog_7_method_62_code 82 = .ok (.iadd, 1) := by decide +kernel
theorem d_mo_see_83 : decode prog_7_method_62_code 83 = .ok (.putfield 144, 3) := by decide +kernel
theorem d_mo_see_86 : decode prog_7_method_62_code 86 = .ok (.aload_n 0, 1) := by decide +kernel
theorem d_mo_see_87 : decode prog_7_method_62_code 87 = .ok (.getfield 144, 3) := by decide +kernel
theorem d_mo_see_90 : decode prog_7_method_62_code 90 = .ok (.ireturn, 1) := by decide +kernel
theorem d_mo_forget_0 : decode prog_7_method_63_code 0 = .ok (.aload_n 0, 1) := by decide +kernel
theorem d_mo_forget_1 : decode prog_7_method_63_code 1 = .ok (.getfield 144, 3) := by decide +kernel
theorem d_mo_forget_4 : decode prog_7_method_63_code 4 = .ok (.istore_n 1, 1) := by decide +kernel
theorem d_mo_forget_5 : decode prog_7_method_63_code 5 = .ok (.aload_n 0, 1) := by decide +kernel
theorem d_mo_forget_6 : decode prog_7_method_63_code 6 = .ok (.iconst 0, 1) := by decide +kernel
theorem d_mo_forget_7 : decode prog_7_method_63_code 7 = .ok (.putfield 144, 3) := by decide +kernel
theorem d_mo_forget_10 : decode prog_7_method_63_code 10 = .ok (.iload_n 1, 1) := by decide +kernel
theorem d_mo_forget_11 : decode prog_7_method_63_code 11 = .ok (.ireturn, 1) := by decide +kernel
theorem d_mo_sortsOf_0 : decode prog_7_method_64_code 0 = .ok (.iconst 0, 1) := by decide +kernel
theorem d_mo_sortsOf_1 : decode prog_7_method_64_code 1 = .ok (.istore_n 2, 1) := by decide +kernel
theorem d_mo_sortsOf_2 : decode prog_7_method_64_code 2 = .ok (.iconst 0, 1) := by decide +kernel
theorem d_mo_sortsOf_3 : decode prog_7_method_64_code 3 = .ok (.istore_n 3, 1) := by decide +kernel
theorem d_mo_sortsOf_4 : decode prog_7_method_64_code 4 = .ok (.iload_n 3, 1) := by decide +kernel
theorem d_mo_sortsOf_5 : decode prog_7_method_64_code 5 = .ok (.iconst 4, 1) := by decide +kernel
theorem d_mo_sortsOf_6 : decode prog_7_method_64_code 6 = .ok (.if_icmp .gt 98, 3) := by decide +kernel
theorem d_mo_sortsOf_9 : decode prog_7_method_64_code 9 = .ok (.iconst 1, 1) := by decide +kernel
theorem d_mo_sortsOf_10 : decode prog_7_method_64_code 10 = .ok (.istore 4, 2) := by decide +kernel
theorem d_mo_sortsOf_12 : decode prog_7_method_64_code 12 = .ok (.iconst 0, 1) := by decide +kernel
theorem d_mo_sortsOf_13 : decode prog_7_method_64_code 13 = .ok (.istore 5, 2) := by decide +kernel
theorem d_mo_sortsOf_15 : decode prog_7_method_64_code 15 = .ok (.iload 5, 2) := by decide +kernel
theorem d_mo_sortsOf_17 : decode prog_7_method_64_code 17 = .ok (.aload_n 0, 1) := by decide +kernel
theorem d_mo_sortsOf_18 : decode prog_7_method_64_code 18 = .ok (.getfield 144, 3) := by decide +kernel
theorem d_mo_sortsOf_21 : decode prog_7_method_64_code 21 = .ok (.if_icmp .ge 62, 3) := by decide +kernel
theorem d_mo_sortsOf_24 : decode prog_7_method_64_code 24 = .ok (.iload 4, 2) := by decide +kernel
theorem d_mo_sortsOf_26 : decode prog_7_method_64_code 26 = .ok (.ifCond .eq 48, 3) := by decide +kernel
theorem d_mo_sortsOf_29 : decode prog_7_method_64_code 29 = .ok (.aload_n 0, 1) := by decide +kernel
theorem d_mo_sortsOf_30 : decode prog_7_method_64_code 30 = .ok (.getfield 31, 3) := by decide +kernel
theorem d_mo_sortsOf_33 : decode prog_7_method_64_code 33 = .ok (.iload 5, 2) := by decide +kernel
theorem d_mo_sortsOf_35 : decode prog_7_method_64_code 35 = .ok (.iaload, 1) := by decide +kernel
theorem d_mo_sortsOf_36 : decode prog_7_method_64_code 36 = .ok (.iload_n 1, 1) := by decide +kernel
theorem d_mo_sortsOf_37 : decode prog_7_method_64_code 37 = .ok (.if_icmp .ne 33, 3) := by decide +kernel
theorem d_mo_sortsOf_40 : decode prog_7_method_64_code 40 = .ok (.iload_n 3, 1) := by decide +kernel
theorem d_mo_sortsOf_41 : decode prog_7_method_64_code 41 = .ok (.aload_n 0, 1) := by decide +kernel
theorem d_mo_sortsOf_42 : decode prog_7_method_64_code 42 = .ok (.getfield 34, 3) := by decide +kernel
theorem d_mo_sortsOf_45 : decode prog_7_method_64_code 45 = .ok (.iload 5, 2) := by decide +kernel
theorem d_mo_sortsOf_47 : decode prog_7_method_64_code 47 = .ok (.iaload, 1) := by decide +kernel
theorem d_mo_sortsOf_48 : decode prog_7_method_64_code 48 = .ok (.invokestatic 229, 3) := by decide +kernel
theorem d_mo_sortsOf_51 : decode prog_7_method_64_code 51 = .ok (.aload_n 0, 1) := by decide +kernel
theorem d_mo_sortsOf_52 : decode prog_7_method_64_code 52 = .ok (.getfield 37, 3) := by decide +kernel
theorem d_mo_sortsOf_55 : decode prog_7_method_64_code 55 = .ok (.iload 5, 2) := by decide +kernel
theorem d_mo_sortsOf_57 : decode prog_7_method_64_code 57 = .ok (.iaload, 1) := by decide +kernel
theorem d_mo_sortsOf_58 : decode prog_7_method_64_code 58 = .ok (.iconst 1, 1) := by decide +kernel
theorem d_mo_sortsOf_59 : decode prog_7_method_64_code 59 = .ok (.if_icmp .ne 7, 3) := by decide +kernel
theorem d_mo_sortsOf_62 : decode prog_7_method_64_code 62 = .ok (.iconst 1, 1) := by decide +kernel
theorem d_mo_sortsOf_63 : decode prog_7_method_64_code 63 = .ok (.goto 4, 3) := by decide +kernel
theorem d_mo_sortsOf_66 : decode prog_7_method_64_code 66 = .ok (.iconst 0, 1) := by decide +kernel
theorem d_mo_sortsOf_67 : decode prog_7_method_64_code 67 = .ok (.if_icmp .ne 7, 3) := by decide +kernel
theorem d_mo_sortsOf_70 : decode prog_7_method_64_code 70 = .ok (.iconst 1, 1) := by decide +kernel
theorem d_mo_sortsOf_71 : decode prog_7_method_64_code 71 = .ok (.goto 4, 3) := by decide +kernel
theorem d_mo_sortsOf_74 : decode prog_7_method_64_code 74 = .ok (.iconst 0, 1) := by decide +kernel
theorem d_mo_sortsOf_75 : decode prog_7_method_64_code 75 = .ok (.istore 4, 2) := by decide +kernel
theorem d_mo_sortsOf_77 : decode prog_7_method_64_code 77 = .ok (.iinc 5 1, 3) := by decide +kernel
theorem d_mo_sortsOf_80 : decode prog_7_method_64_code 80 = .ok (.goto (-65), 3) := by decide +kernel
theorem d_mo_sortsOf_83 : decode prog_7_method_64_code 83 = .ok (.iload_n 2, 1) := by decide +kernel
theorem d_mo_sortsOf_84 : decode prog_7_method_64_code 84 = .ok (.iload 4, 2) := by decide +kernel
theorem d_mo_sortsOf_86 : decode prog_7_method_64_code 86 = .ok (.ifCond .eq 9, 3) := by decide +kernel
theorem d_mo_sortsOf_89 : decode prog_7_method_64_code 89 = .ok (.iconst 1, 1) := by decide +kernel
theorem d_mo_sortsOf_90 : decode prog_7_method_64_code 90 = .ok (.iload_n 3, 1) := by decide +kernel
theorem d_mo_sortsOf_91 : decode prog_7_method_64_code 91 = .ok (.ishl, 1) := by decide +kernel
theorem d_mo_sortsOf_92 : decode prog_7_method_64_code 92 = .ok (.goto 4, 3) := by decide +kernel
theorem d_mo_sortsOf_95 : decode prog_7_method_64_code 95 = .ok (.iconst 0, 1) := by decide +kernel
theorem d_mo_sortsOf_96 : decode prog_7_method_64_code 96 = .ok (.ior, 1) := by decide +kernel
theorem d_mo_sortsOf_97 : decode prog_7_method_64_code 97 = .ok (.istore_n 2, 1) := by decide +kernel
theorem d_mo_sortsOf_98 : decode prog_7_method_64_code 98 = .ok (.iinc 3 1, 3) := by decide +kernel
theorem d_mo_sortsOf_101 : decode prog_7_method_64_code 101 = .ok (.goto (-97), 3) := by decide +kernel
theorem d_mo_sortsOf_104 : decode prog_7_method_64_code 104 = .ok (.iload_n 2, 1) := by decide +kernel
theorem d_mo_sortsOf_105 : decode prog_7_method_64_code 105 = .ok (.ireturn, 1) := by decide +kernel
theorem d_mo_askOf_0 : decode prog_7_method_65_code 0 = .ok (.aload_n 0, 1) := by decide +kernel
theorem d_mo_askOf_1 : decode prog_7_method_65_code 1 = .ok (.iload_n 1, 1) := by decide +kernel
theorem d_mo_askOf_2 : decode prog_7_method_65_code 2 = .ok (.invokevirtual 150, 3) := by decide +kernel
theorem d_mo_askOf_5 : decode prog_7_method_65_code 5 = .ok (.istore_n 2, 1) := by decide +kernel
theorem d_mo_askOf_6 : decode prog_7_method_65_code 6 = .ok (.sipush (-10001), 3) := by decide +kernel
theorem d_mo_askOf_9 : decode prog_7_method_65_code 9 = .ok (.istore_n 3, 1) := by decide +kernel
theorem d_mo_askOf_10 : decode prog_7_method_65_code 10 = .ok (.ldc 232, 2) := by decide +kernel
theorem d_mo_askOf_12 : decode prog_7_method_65_code 12 = .ok (.istore 4, 2) := by decide +kernel
theorem d_mo_askOf_14 : decode prog_7_method_65_code 14 = .ok (.iconst 0, 1) := by decide +kernel
theorem d_mo_askOf_15 : decode prog_7_method_65_code 15 = .ok (.istore 5, 2) := by decide +kernel
theorem d_mo_askOf_17 : decode prog_7_method_65_code 17 = .ok (.iload 5, 2) := by decide +kernel
theorem d_mo_askOf_19 : decode prog_7_method_65_code 19 = .ok (.iconst 4, 1) := by decide +kernel
theorem d_mo_askOf_20 : decode prog_7_method_65_code 20 = .ok (.if_icmp .ge 115, 3) := by decide +kernel
theorem d_mo_askOf_23 : decode prog_7_method_65_code 23 = .ok (.iload_n 2, 1) := by decide +kernel
theorem d_mo_askOf_24 : decode prog_7_method_65_code 24 = .ok (.ifCond .eq 111, 3) := by decide +kernel
theorem d_mo_askOf_27 : decode prog_7_method_65_code 27 = .ok (.iconst 0, 1) := by decide +kernel
theorem d_mo_askOf_28 : decode prog_7_method_65_code 28 = .ok (.istore 6, 2) := by decide +kernel
theorem d_mo_askOf_30 : decode prog_7_method_65_code 30 = .ok (.iconst 0, 1) := by decide +kernel
theorem d_mo_askOf_31 : decode prog_7_method_65_code 31 = .ok (.istore 7, 2) := by decide +kernel
theorem d_mo_askOf_33 : decode prog_7_method_65_code 33 = .ok (.iload 7, 2) := by decide +kernel
theorem d_mo_askOf_35 : decode prog_7_method_65_code 35 = .ok (.iconst 4, 1) := by decide +kernel
theorem d_mo_askOf_36 : decode prog_7_method_65_code 36 = .ok (.if_icmp .gt 38, 3) := by decide +kernel
theorem d_mo_askOf_39 : decode prog_7_method_65_code 39 = .ok (.iload 6, 2) := by decide +kernel
theorem d_mo_askOf_41 : decode prog_7_method_65_code 41 = .ok (.iload_n 2, 1) := by decide +kernel
theorem d_mo_askOf_42 : decode prog_7_method_65_code 42 = .ok (.iload 7, 2) := by decide +kernel
theorem d_mo_askOf_44 : decode prog_7_method_65_code 44 = .ok (.invokestatic 233, 3) := by decide +kernel
theorem d_mo_askOf_47 : decode prog_7_method_65_code 47 = .ok (.ifCond .eq 17, 3) := by decide +kernel
theorem d_mo_askOf_50 : decode prog_7_method_65_code 50 = .ok (.iload 7, 2) := by decide +kernel
theorem d_mo_askOf_52 : decode prog_7_method_65_code 52 = .ok (.iload 5, 2) := by decide +kernel
theorem d_mo_askOf_54 : decode prog_7_method_65_code 54 = .ok (.invokestatic 229, 3) := by decide +kernel
theorem d_mo_askOf_57 : decode prog_7_method_65_code 57 = .ok (.ifCond .eq 7, 3) := by decide +kernel
theorem d_mo_askOf_60 : decode prog_7_method_65_code 60 = .ok (.iconst 1, 1) := by decide +kernel
theorem d_mo_askOf_61 : decode prog_7_method_65_code 61 = .ok (.goto 4, 3) := by decide +kernel
theorem d_mo_askOf_64 : decode prog_7_method_65_code 64 = .ok (.iconst 0, 1) := by decide +kernel
theorem d_mo_askOf_65 : decode prog_7_method_65_code 65 = .ok (.iadd, 1) := by decide +kernel
theorem d_mo_askOf_66 : decode prog_7_method_65_code 66 = .ok (.istore 6, 2) := by decide +kernel
theorem d_mo_askOf_68 : decode prog_7_method_65_code 68 = .ok (.iinc 7 1, 3) := by decide +kernel
theorem d_mo_askOf_71 : decode prog_7_method_65_code 71 = .ok (.goto (-38), 3) := by decide +kernel
theorem d_mo_askOf_74 : decode prog_7_method_65_code 74 = .ok (.iload_n 2, 1) := by decide +kernel
theorem d_mo_askOf_75 : decode prog_7_method_65_code 75 = .ok (.invokestatic 236, 3) := by decide +kernel
theorem d_mo_askOf_78 : decode prog_7_method_65_code 78 = .ok (.iload 6, 2) := by decide +kernel
theorem d_mo_askOf_80 : decode prog_7_method_65_code 80 = .ok (.isub, 1) := by decide +kernel
theorem d_mo_askOf_81 : decode prog_7_method_65_code 81 = .ok (.istore 7, 2) := by decide +kernel
theorem d_mo_askOf_83 : decode prog_7_method_65_code 83 = .ok (.iload 6, 2) := by decide +kernel
theorem d_mo_askOf_85 : decode prog_7_method_65_code 85 = .ok (.iload 7, 2) := by decide +kernel
theorem d_mo_askOf_87 : decode prog_7_method_65_code 87 = .ok (.if_icmp .le 8, 3) := by decide +kernel
theorem d_mo_askOf_90 : decode prog_7_method_65_code 90 = .ok (.iload 6, 2) := by decide +kernel
theorem d_mo_askOf_92 : decode prog_7_method_65_code 92 = .ok (.goto 5, 3) := by decide +kernel
theorem d_mo_askOf_95 : decode prog_7_method_65_code 95 = .ok (.iload 7, 2) := by decide +kernel
theorem d_mo_askOf_97 : decode prog_7_method_65_code 97 = .ok (.istore 8, 2) := by decide +kernel
theorem d_mo_askOf_99 : decode prog_7_method_65_code 99 = .ok (.iload 8, 2) := by decide +kernel
theorem d_mo_askOf_101 : decode prog_7_method_65_code 101 = .ok (.iload 4, 2) := by decide +kernel
theorem d_mo_askOf_103 : decode prog_7_method_65_code 103 = .ok (.if_icmp .ge 8, 3) := by decide +kernel
theorem d_mo_askOf_106 : decode prog_7_method_65_code 106 = .ok (.iload 5, 2) := by decide +kernel
theorem d_mo_askOf_108 : decode prog_7_method_65_code 108 = .ok (.goto 4, 3) := by decide +kernel
theorem d_mo_askOf_111 : decode prog_7_method_65_code 111 = .ok (.iload_n 3, 1) := by decide +kernel
theorem d_mo_askOf_112 : decode prog_7_method_65_code 112 = .ok (.istore_n 3, 1) := by decide +kernel
theorem d_mo_askOf_113 : decode prog_7_method_65_code 113 = .ok (.iload 8, 2) := by decide +kernel
theorem d_mo_askOf_115 : decode prog_7_method_65_code 115 = .ok (.iload 4, 2) := by decide +kernel
theorem d_mo_askOf_117 : decode prog_7_method_65_code 117 = .ok (.if_icmp .ge 8, 3) := by decide +kernel
theorem d_mo_askOf_120 : decode prog_7_method_65_code 120 = .ok (.iload 8, 2) := by decide +kernel
theorem d_mo_askOf_122 : decode prog_7_method_65_code 122 = .ok (.goto 5, 3) := by decide +kernel
theorem d_mo_askOf_125 : decode prog_7_method_65_code 125 = .ok (.iload 4, 2) := by decide +kernel
theorem d_mo_askOf_127 : decode prog_7_method_65_code 127 = .ok (.istore 4, 2) := by decide +kernel
theorem d_mo_askOf_129 : decode prog_7_method_65_code 129 = .ok (.iinc 5 1, 3) := by decide +kernel
theorem d_mo_askOf_132 : decode prog_7_method_65_code 132 = .ok (.goto (-115), 3) := by decide +kernel
theorem d_mo_askOf_135 : decode prog_7_method_65_code 135 = .ok (.iload_n 3, 1) := by decide +kernel
theorem d_mo_askOf_136 : decode prog_7_method_65_code 136 = .ok (.ireturn, 1) := by decide +kernel
theorem d_mo_draw_0 : decode prog_7_method_66_code 0 = .ok (.aload_n 0, 1) := by decide +kernel
theorem d_mo_draw_1 : decode prog_7_method_66_code 1 = .ok (.ldc2_w 239, 3) := by decide +kernel
theorem d_mo_draw_4 : decode prog_7_method_66_code 4 = .ok (.aload_n 0, 1) := by decide +kernel
theorem d_mo_draw_5 : decode prog_7_method_66_code 5 = .ok (.getfield 241, 3) := by decide +kernel
theorem d_mo_draw_8 : decode prog_7_method_66_code 8 = .ok (.lmul, 1) := by decide +kernel
theorem d_mo_draw_9 : decode prog_7_method_66_code 9 = .ok (.ldc2_w 245, 3) := by decide +kernel
theorem d_mo_draw_12 : decode prog_7_method_66_code 12 = .ok (.ladd, 1) := by decide +kernel
theorem d_mo_draw_13 : decode prog_7_method_66_code 13 = .ok (.ldc2_w 247, 3) := by decide +kernel
theorem d_mo_draw_16 : decode prog_7_method_66_code 16 = .ok (.land, 1) := by decide +kernel
theorem d_mo_draw_17 : decode prog_7_method_66_code 17 = .ok (.putfield 241, 3) := by decide +kernel
theorem d_mo_draw_20 : decode prog_7_method_66_code 20 = .ok (.aload_n 0, 1) := by decide +kernel
theorem d_mo_draw_21 : decode prog_7_method_66_code 21 = .ok (.getfield 241, 3) := by decide +kernel
theorem d_mo_draw_24 : decode prog_7_method_66_code 24 = .ok (.ldc2_w 249, 3) := by decide +kernel
theorem d_mo_draw_27 : decode prog_7_method_66_code 27 = .ok (.ldiv, 1) := by decide +kernel
theorem d_mo_draw_28 : decode prog_7_method_66_code 28 = .ok (.iload_n 1, 1) := by decide +kernel
theorem d_mo_draw_29 : decode prog_7_method_66_code 29 = .ok (.i2l, 1) := by decide +kernel
theorem d_mo_draw_30 : decode prog_7_method_66_code 30 = .ok (.lrem, 1) := by decide +kernel
theorem d_mo_draw_31 : decode prog_7_method_66_code 31 = .ok (.l2i, 1) := by decide +kernel
theorem d_mo_draw_32 : decode prog_7_method_66_code 32 = .ok (.ireturn, 1) := by decide +kernel
theorem d_mo_drawnNow_0 : decode prog_7_method_67_code 0 = .ok (.aload_n 0, 1) := by decide +kernel
theorem d_mo_drawnNow_1 : decode prog_7_method_67_code 1 = .ok (.iload_n 2, 1) := by decide +kernel
theorem d_mo_drawnNow_2 : decode prog_7_method_67_code 2 = .ok (.i2l, 1) := by decide +kernel
theorem d_mo_drawnNow_3 : decode prog_7_method_67_code 3 = .ok (.putfield 241, 3) := by decide +kernel
theorem d_mo_drawnNow_6 : decode prog_7_method_67_code 6 = .ok (.iconst 0, 1) := by decide +kernel
theorem d_mo_drawnNow_7 : decode prog_7_method_67_code 7 = .ok (.istore 4, 2) := by decide +kernel
theorem d_mo_drawnNow_9 : decode prog_7_method_67_code 9 = .ok (.iconst 0, 1) := by decide +kernel
theorem d_mo_drawnNow_10 : decode prog_7_method_67_code 10 = .ok (.istore 5, 2) := by decide +kernel
theorem d_mo_drawnNow_12 : decode prog_7_method_67_code 12 = .ok (.iconst 0, 1) := by decide +kernel
theorem d_mo_drawnNow_13 : decode prog_7_method_67_code 13 = .ok (.istore 6, 2) := by decide +kernel
theorem d_mo_drawnNow_15 : decode prog_7_method_67_code 15 = .ok (.iload 6, 2) := by decide +kernel
theorem d_mo_drawnNow_17 : decode prog_7_method_67_code 17 = .ok (.iload_n 1, 1) := by decide +kernel
theorem d_mo_drawnNow_18 : decode prog_7_method_67_code 18 = .ok (.if_icmp .ge 66, 3) := by decide +kernel
theorem d_mo_drawnNow_21 : decode prog_7_method_67_code 21 = .ok (.aload_n 0, 1) := by decide +kernel
theorem d_mo_drawnNow_22 : decode prog_7_method_67_code 22 = .ok (.aload_n 0, 1) := by decide +kernel
theorem d_mo_drawnNow_23 : decode prog_7_method_67_code 23 = .ok (.getfield 138, 3) := by decide +kernel
theorem d_mo_drawnNow_26 : decode prog_7_method_67_code 26 = .ok (.invokevirtual 251, 3) := by decide +kernel
theorem d_mo_drawnNow_29 : decode prog_7_method_67_code 29 = .ok (.istore 7, 2) := by decide +kernel
theorem d_mo_drawnNow_31 : decode prog_7_method_67_code 31 = .ok (.aload_n 0, 1) := by decide +kernel
theorem d_mo_drawnNow_32 : decode prog_7_method_67_code 32 = .ok (.iload 7, 2) := by decide +kernel
theorem d_mo_drawnNow_34 : decode prog_7_method_67_code 34 = .ok (.aload_n 0, 1) := by decide +kernel
theorem d_mo_drawnNow_35 : decode prog_7_method_67_code 35 = .ok (.sipush 1440, 3) := by decide +kernel
theorem d_mo_drawnNow_38 : decode prog_7_method_67_code 38 = .ok (.invokevirtual 251, 3) := by decide +kernel
theorem d_mo_drawnNow_41 : decode prog_7_method_67_code 41 = .ok (.invokevirtual 185, 3) := by decide +kernel
theorem d_mo_drawnNow_44 : decode prog_7_method_67_code 44 = .ok (.istore 8, 2) := by decide +kernel
theorem d_mo_drawnNow_46 : decode prog_7_method_67_code 46 = .ok (.iload 4, 2) := by decide +kernel
theorem d_mo_drawnNow_48 : decode prog_7_method_67_code 48 = .ok (.iload 8, 2) := by decide +kernel
theorem d_mo_drawnNow_50 : decode prog_7_method_67_code 50 = .ok (.bipush 10, 2) := by decide +kernel
theorem d_mo_drawnNow_52 : decode prog_7_method_67_code 52 = .ok (.aload_n 0, 1) := by decide +kernel
theorem d_mo_drawnNow_53 : decode prog_7_method_67_code 53 = .ok (.getfield 13, 3) := by decide +kernel
theorem d_mo_drawnNow_56 : decode prog_7_method_67_code 56 = .ok (.iload 7, 2) := by decide +kernel
theorem d_mo_drawnNow_58 : decode prog_7_method_67_code 58 = .ok (.iaload, 1) := by decide +kernel
theorem d_mo_drawnNow_59 : decode prog_7_method_67_code 59 = .ok (.imul, 1) := by decide +kernel
theorem d_mo_drawnNow_60 : decode prog_7_method_67_code 60 = .ok (.if_icmp .lt 7, 3) := by decide +kernel
theorem d_mo_drawnNow_63 : decode prog_7_method_67_code 63 = .ok (.iconst 1, 1) := by decide +kernel
theorem d_mo_drawnNow_64 : decode prog_7_method_67_code 64 = .ok (.goto 4, 3) := by decide +kernel
theorem d_mo_drawnNow_67 : decode prog_7_method_67_code 67 = .ok (.iconst 0, 1) := by decide +kernel
theorem d_mo_drawnNow_68 : decode prog_7_method_67_code 68 = .ok (.iadd, 1) := by decide +kernel
theorem d_mo_drawnNow_69 : decode prog_7_method_67_code 69 = .ok (.istore 4, 2) := by decide +kernel
theorem d_mo_drawnNow_71 : decode prog_7_method_67_code 71 = .ok (.iload 5, 2) := by decide +kernel
theorem d_mo_drawnNow_73 : decode prog_7_method_67_code 73 = .ok (.iload 8, 2) := by decide +kernel
theorem d_mo_drawnNow_75 : decode prog_7_method_67_code 75 = .ok (.iadd, 1) := by decide +kernel
theorem d_mo_drawnNow_76 : decode prog_7_method_67_code 76 = .ok (.istore 5, 2) := by decide +kernel
theorem d_mo_drawnNow_78 : decode prog_7_method_67_code 78 = .ok (.iinc 6 1, 3) := by decide +kernel
theorem d_mo_drawnNow_81 : decode prog_7_method_67_code 81 = .ok (.goto (-66), 3) := by decide +kernel
theorem d_mo_drawnNow_84 : decode prog_7_method_67_code 84 = .ok (.iload_n 3, 1) := by decide +kernel
theorem d_mo_drawnNow_85 : decode prog_7_method_67_code 85 = .ok (.ifCond .ne 8, 3) := by decide +kernel
theorem d_mo_drawnNow_88 : decode prog_7_method_67_code 88 = .ok (.iload 4, 2) := by decide +kernel
theorem d_mo_drawnNow_90 : decode prog_7_method_67_code 90 = .ok (.goto 18, 3) := by decide +kernel
theorem d_mo_drawnNow_93 : decode prog_7_method_67_code 93 = .ok (.iload_n 3, 1) := by decide +kernel
theorem d_mo_drawnNow_94 : decode prog_7_method_67_code 94 = .ok (.iconst 1, 1) := by decide +kernel
theorem d_mo_drawnNow_95 : decode prog_7_method_67_code 95 = .ok (.if_icmp .ne 8, 3) := by decide +kernel
theorem d_mo_drawnNow_98 : decode prog_7_method_67_code 98 = .ok (.iload 5, 2) := by decide +kernel
theorem d_mo_drawnNow_100 : decode prog_7_method_67_code 100 = .ok (.goto 8, 3) := by decide +kernel
theorem d_mo_drawnNow_103 : decode prog_7_method_67_code 103 = .ok (.aload_n 0, 1) := by decide +kernel
theorem d_mo_drawnNow_104 : decode prog_7_method_67_code 104 = .ok (.getfield 241, 3) := by decide +kernel
theorem d_mo_drawnNow_107 : decode prog_7_method_67_code 107 = .ok (.l2i, 1) := by decide +kernel
theorem d_mo_drawnNow_108 : decode prog_7_method_67_code 108 = .ok (.ireturn, 1) := by decide +kernel
theorem d_mo_drawn_0 : decode prog_7_method_68_code 0 = .ok (.iload_n 1, 1) := by decide +kernel
theorem d_mo_drawn_1 : decode prog_7_method_68_code 1 = .ok (.iconst 1, 1) := by decide +kernel
theorem d_mo_drawn_2 : decode prog_7_method_68_code 2 = .ok (.bipush 50, 2) := by decide +kernel
theorem d_mo_drawn_4 : decode prog_7_method_68_code 4 = .ok (.invokestatic 93, 3) := by decide +kernel
theorem d_mo_drawn_7 : decode prog_7_method_68_code 7 = .ok (.ifCond .eq 16, 3) := by decide +kernel
theorem d_mo_drawn_10 : decode prog_7_method_68_code 10 = .ok (.iload_n 2, 1) := by decide +kernel
theorem d_mo_drawn_11 : decode prog_7_method_68_code 11 = .ok (.ifCond .lt 12, 3) := by decide +kernel
theorem d_mo_drawn_14 : decode prog_7_method_68_code 14 = .ok (.iload_n 3, 1) := by decide +kernel
theorem d_mo_drawn_15 : decode prog_7_method_68_code 15 = .ok (.iconst 0, 1) := by decide +kernel
theorem d_mo_drawn_16 : decode prog_7_method_68_code 16 = .ok (.iconst 2, 1) := by decide +kernel
theorem d_mo_drawn_17 : decode prog_7_method_68_code 17 = .ok (.invokestatic 93, 3) := by decide +kernel
theorem d_mo_drawn_20 : decode prog_7_method_68_code 20 = .ok (.ifCond .ne 7, 3) := by decide +kernel
theorem d_mo_drawn_23 : decode prog_7_method_68_code 23 = .ok (.sipush (-10102), 3) := by decide +kernel
theorem d_mo_drawn_26 : decode prog_7_method_68_code 26 = .ok (.ireturn, 1) := by decide +kernel
theorem d_mo_drawn_27 : decode prog_7_method_68_code 27 = .ok (.aload_n 0, 1) := by decide +kernel
theorem d_mo_drawn_28 : decode prog_7_method_68_code 28 = .ok (.getfield 138, 3) := by decide +kernel
theorem d_mo_drawn_31 : decode prog_7_method_68_code 31 = .ok (.ifCond .ne 9, 3) := by decide +kernel
theorem d_mo_drawn_34 : decode prog_7_method_68_code 34 = .ok (.sipush (-10103), 3) := by decide +kernel
theorem d_mo_drawn_37 : decode prog_7_method_68_code 37 = .ok (.goto 10, 3) := by decide +kernel
theorem d_mo_drawn_40 : decode prog_7_method_68_code 40 = .ok (.aload_n 0, 1) := by decide +kernel
theorem d_mo_drawn_41 : decode prog_7_method_68_code 41 = .ok (.iload_n 1, 1) := by decide +kernel
theorem d_mo_drawn_42 : decode prog_7_method_68_code 42 = .ok (.iload_n 2, 1) := by decide +kernel
theorem d_mo_drawn_43 : decode prog_7_method_68_code 43 = .ok (.iload_n 3, 1) := by decide +kernel
theorem d_mo_drawn_44 : decode prog_7_method_68_code 44 = .ok (.invokevirtual 254, 3) := by decide +kernel
theorem d_mo_drawn_47 : decode prog_7_method_68_code 47 = .ok (.ireturn, 1) := by decide +kernel
theorem d_mo_image_0 : decode prog_7_method_69_code 0 = .ok (.aload_n 0, 1) := by decide +kernel
theorem d_mo_image_1 : decode prog_7_method_69_code 1 = .ok (.getfield 138, 3) := by decide +kernel
theorem d_mo_image_4 : decode prog_7_method_69_code 4 = .ok (.ifCond .ne 7, 3) := by decide +kernel
theorem d_mo_image_7 : decode prog_7_method_69_code 7 = .ok (.sipush (-10103), 3) := by decide +kernel
theorem d_mo_image_10 : decode prog_7_method_69_code 10 = .ok (.ireturn, 1) := by decide +kernel
theorem d_mo_image_11 : decode prog_7_method_69_code 11 = .ok (.aload_n 0, 1) := by decide +kernel
theorem d_mo_image_12 : decode prog_7_method_69_code 12 = .ok (.iconst 1, 1) := by decide +kernel
theorem d_mo_image_13 : decode prog_7_method_69_code 13 = .ok (.putfield 257, 3) := by decide +kernel
theorem d_mo_image_16 : decode prog_7_method_69_code 16 = .ok (.aload_n 0, 1) := by decide +kernel
theorem d_mo_image_17 : decode prog_7_method_69_code 17 = .ok (.aload_n 0, 1) := by decide +kernel
theorem d_mo_image_18 : decode prog_7_method_69_code 18 = .ok (.getfield 141, 3) := by decide +kernel
theorem d_mo_image_21 : decode prog_7_method_69_code 21 = .ok (.putfield 260, 3) := by decide +kernel
theorem d_mo_image_24 : decode prog_7_method_69_code 24 = .ok (.aload_n 0, 1) := by decide +kernel
theorem d_mo_image_25 : decode prog_7_method_69_code 25 = .ok (.aload_n 0, 1) := by decide +kernel
theorem d_mo_image_26 : decode prog_7_method_69_code 26 = .ok (.getfield 144, 3) := by decide +kernel
theorem d_mo_image_29 : decode prog_7_method_69_code 29 = .ok (.putfield 263, 3) := by decide +kernel
theorem d_mo_image_32 : decode prog_7_method_69_code 32 = .ok (.iconst 0, 1) := by decide +kernel
theorem d_mo_image_33 : decode prog_7_method_69_code 33 = .ok (.istore_n 1, 1) := by decide +kernel
theorem d_mo_image_34 : decode prog_7_method_69_code 34 = .ok (.iload_n 1, 1) := by decide +kernel
theorem d_mo_image_35 : decode prog_7_method_69_code 35 = .ok (.iconst 4, 1) := by decide +kernel
theorem d_mo_image_36 : decode prog_7_method_69_code 36 = .ok (.if_icmp .ge 69, 3) := by decide +kernel
theorem d_mo_image_39 : decode prog_7_method_69_code 39 = .ok (.aload_n 0, 1) := by decide +kernel
theorem d_mo_image_40 : decode prog_7_method_69_code 40 = .ok (.getfield 62, 3) := by decide +kernel
theorem d_mo_image_43 : decode prog_7_method_69_code 43 = .ok (.iload_n 1, 1) := by decide +kernel
theorem d_mo_image_44 : decode prog_7_method_69_code 44 = .ok (.aload_n 0, 1) := by decide +kernel
theorem d_mo_image_45 : decode prog_7_method_69_code 45 = .ok (.getfield 7, 3) := by decide +kernel
theorem d_mo_image_48 : decode prog_7_method_69_code 48 = .ok (.iload_n 1, 1) := by decide +kernel
theorem d_mo_image_49 : decode prog_7_method_69_code 49 = .ok (.iaload, 1) := by decide +kernel
theorem d_mo_image_50 : decode prog_7_method_69_code 50 = .ok (.iastore, 1) := by decide +kernel
theorem d_mo_image_51 : decode prog_7_method_69_code 51 = .ok (.aload_n 0, 1) := by decide +kernel
theorem d_mo_image_52 : decode prog_7_method_69_code 52 = .ok (.getfield 65, 3) := by decide +kernel
theorem d_mo_image_55 : decode prog_7_method_69_code 55 = .ok (.iload_n 1, 1) := by decide +kernel
theorem d_mo_image_56 : decode prog_7_method_69_code 56 = .ok (.aload_n 0, 1) := by decide +kernel
theorem d_mo_image_57 : decode prog_7_method_69_code 57 = .ok (.getfield 13, 3) := by decide +kernel
theorem d_mo_image_60 : decode prog_7_method_69_code 60 = .ok (.iload_n 1, 1) := by decide +kernel
theorem d_mo_image_61 : decode prog_7_method_69_code 61 = .ok (.iaload, 1) := by decide +kernel
theorem d_mo_image_62 : decode prog_7_method_69_code 62 = .ok (.iastore, 1) := by decide +kernel
theorem d_mo_image_63 : decode prog_7_method_69_code 63 = .ok (.aload_n 0, 1) := by decide +kernel
theorem d_mo_image_64 : decode prog_7_method_69_code 64 = .ok (.getfield 68, 3) := by decide +kernel
theorem d_mo_image_67 : decode prog_7_method_69_code 67 = .ok (.iload_n 1, 1) := by decide +kernel
theorem d_mo_image_68 : decode prog_7_method_69_code 68 = .ok (.aload_n 0, 1) := by decide +kernel
theorem d_mo_image_69 : decode prog_7_method_69_code 69 = .ok (.getfield 16, 3) := by decide +kernel
theorem d_mo_image_72 : decode prog_7_method_69_code 72 = .ok (.iload_n 1, 1) := by decide +kernel
theorem d_mo_image_73 : decode prog_7_method_69_code 73 = .ok (.iaload, 1) := by decide +kernel
theorem d_mo_image_74 : decode prog_7_method_69_code 74 = .ok (.iastore, 1) := by decide +kernel
theorem d_mo_image_75 : decode prog_7_method_69_code 75 = .ok (.aload_n 0, 1) := by decide +kernel
theorem d_mo_image_76 : decode prog_7_method_69_code 76 = .ok (.getfield 71, 3) := by decide +kernel
theorem d_mo_image_79 : decode prog_7_method_69_code 79 = .ok (.iload_n 1, 1) := by decide +kernel
theorem d_mo_image_80 : decode prog_7_method_69_code 80 = .ok (.aload_n 0, 1) := by decide +kernel
theorem d_mo_image_81 : decode prog_7_method_69_code 81 = .ok (.getfield 19, 3) := by decide +kernel
theorem d_mo_image_84 : decode prog_7_method_69_code 84 = .ok (.iload_n 1, 1) := by decide +kernel
theorem d_mo_image_85 : decode prog_7_method_69_code 85 = .ok (.iaload, 1) := by decide +kernel
theorem d_mo_image_86 : decode prog_7_method_69_code 86 = .ok (.iastore, 1) := by decide +kernel
theorem d_mo_image_87 : decode prog_7_method_69_code 87 = .ok (.aload_n 0, 1) := by decide +kernel
theorem d_mo_image_88 : decode prog_7_method_69_code 88 = .ok (.getfield 74, 3) := by decide +kernel
theorem d_mo_image_91 : decode prog_7_method_69_code 91 = .ok (.iload_n 1, 1) := by decide +kernel
theorem d_mo_image_92 : decode prog_7_method_69_code 92 = .ok (.aload_n 0, 1) := by decide +kernel
theorem d_mo_image_93 : decode prog_7_method_69_code 93 = .ok (.getfield 22, 3) := by decide +kernel
theorem d_mo_image_96 : decode prog_7_method_69_code 96 = .ok (.iload_n 1, 1) := by decide +kernel
theorem d_mo_image_97 : decode prog_7_method_69_code 97 = .ok (.iaload, 1) := by decide +kernel
theorem d_mo_image_98 : decode prog_7_method_69_code 98 = .ok (.iastore, 1) := by decide +kernel
theorem d_mo_image_99 : decode prog_7_method_69_code 99 = .ok (.iinc 1 1, 3) := by decide +kernel
theorem d_mo_image_102 : decode prog_7_method_69_code 102 = .ok (.goto (-68), 3) := by decide +kernel
theorem d_mo_image_105 : decode prog_7_method_69_code 105 = .ok (.iconst 0, 1) := by decide +kernel
theorem d_mo_image_106 : decode prog_7_method_69_code 106 = .ok (.istore_n 1, 1) := by decide +kernel
theorem d_mo_image_107 : decode prog_7_method_69_code 107 = .ok (.iload_n 1, 1) := by decide +kernel
theorem d_mo_image_108 : decode prog_7_method_69_code 108 = .ok (.bipush 36, 2) := by decide +kernel
theorem d_mo_image_110 : decode prog_7_method_69_code 110 = .ok (.if_icmp .ge 21, 3) := by decide +kernel
theorem d_mo_image_113 : decode prog_7_method_69_code 113 = .ok (.aload_n 0, 1) := by decide +kernel
theorem d_mo_image_114 : decode prog_7_method_69_code 114 = .ok (.getfield 77, 3) := by decide +kernel
theorem d_mo_image_117 : decode prog_7_method_69_code 117 = .ok (.iload_n 1, 1) := by decide +kernel
theorem d_mo_image_118 : decode prog_7_method_69_code 118 = .ok (.aload_n 0, 1) := by decide +kernel
theorem d_mo_image_119 : decode prog_7_method_69_code 119 = .ok (.getfield 25, 3) := by decide +kernel
theorem d_mo_image_122 : decode prog_7_method_69_code 122 = .ok (.iload_n 1, 1) := by decide +kernel
theorem d_mo_image_123 : decode prog_7_method_69_code 123 = .ok (.iaload, 1) := by decide +kernel
theorem d_mo_image_124 : decode prog_7_method_69_code 124 = .ok (.iastore, 1) := by decide +kernel
theorem d_mo_image_125 : decode prog_7_method_69_code 125 = .ok (.iinc 1 1, 3) := by decide +kernel
theorem d_mo_image_128 : decode prog_7_method_69_code 128 = .ok (.goto (-21), 3) := by decide +kernel
theorem d_mo_image_131 : decode prog_7_method_69_code 131 = .ok (.iconst 0, 1) := by decide +kernel
theorem d_mo_image_132 : decode prog_7_method_69_code 132 = .ok (.istore_n 1, 1) := by decide +kernel
theorem d_mo_image_133 : decode prog_7_method_69_code 133 = .ok (.iload_n 1, 1) := by decide +kernel
theorem d_mo_image_134 : decode prog_7_method_69_code 134 = .ok (.bipush 6, 2) := by decide +kernel
theorem d_mo_image_136 : decode prog_7_method_69_code 136 = .ok (.if_icmp .ge 45, 3) := by decide +kernel
theorem d_mo_image_139 : decode prog_7_method_69_code 139 = .ok (.aload_n 0, 1) := by decide +kernel
theorem d_mo_image_140 : decode prog_7_method_69_code 140 = .ok (.getfield 80, 3) := by decide +kernel
theorem d_mo_image_143 : decode prog_7_method_69_code 143 = .ok (.iload_n 1, 1) := by decide +kernel
theorem d_mo_image_144 : decode prog_7_method_69_code 144 = .ok (.aload_n 0, 1) := by decide +kernel
theorem d_mo_image_145 : decode prog_7_method_69_code 145 = .ok (.getfield 31, 3) := by decide +kernel
theorem d_mo_image_148 : decode prog_7_method_69_code 148 = .ok (.iload_n 1, 1) := by decide +kernel
theorem d_mo_image_149 : decode prog_7_method_69_code 149 = .ok (.iaload, 1) := by decide +kernel
theorem d_mo_image_150 : decode prog_7_method_69_code 150 = .ok (.iastore, 1) := by decide +kernel
theorem d_mo_image_151 : decode prog_7_method_69_code 151 = .ok (.aload_n 0, 1) := by decide +kernel
theorem d_mo_image_152 : decode prog_7_method_69_code 152 = .ok (.getfield 83, 3) := by decide +kernel
theorem d_mo_image_155 : decode prog_7_method_69_code 155 = .ok (.iload_n 1, 1) := by decide +kernel
theorem d_mo_image_156 : decode prog_7_method_69_code 156 = .ok (.aload_n 0, 1) := by decide +kernel
theorem d_mo_image_157 : decode prog_7_method_69_code 157 = .ok (.getfield 34, 3) := by decide +kernel
theorem d_mo_image_160 : decode prog_7_method_69_code 160 = .ok (.iload_n 1, 1) := by decide +kernel
theorem d_mo_image_161 : decode prog_7_method_69_code 161 = .ok (.iaload, 1) := by decide +kernel
theorem d_mo_image_162 : decode prog_7_method_69_code 162 = .ok (.iastore, 1) := by decide +kernel
theorem d_mo_image_163 : decode prog_7_method_69_code 163 = .ok (.aload_n 0, 1) := by decide +kernel
theorem d_mo_image_164 : decode prog_7_method_69_code 164 = .ok (.getfield 86, 3) := by decide +kernel
theorem d_mo_image_167 : decode prog_7_method_69_code 167 = .ok (.iload_n 1, 1) := by decide +kernel
theorem d_mo_image_168 : decode prog_7_method_69_code 168 = .ok (.aload_n 0, 1) := by decide +kernel
theorem d_mo_image_169 : decode prog_7_method_69_code 169 = .ok (.getfield 37, 3) := by decide +kernel
theorem d_mo_image_172 : decode prog_7_method_69_code 172 = .ok (.iload_n 1, 1) := by decide +kernel
theorem d_mo_image_173 : decode prog_7_method_69_code 173 = .ok (.iaload, 1) := by decide +kernel
theorem d_mo_image_174 : decode prog_7_method_69_code 174 = .ok (.iastore, 1) := by decide +kernel
theorem d_mo_image_175 : decode prog_7_method_69_code 175 = .ok (.iinc 1 1, 3) := by decide +kernel
theorem d_mo_image_178 : decode prog_7_method_69_code 178 = .ok (.goto (-45), 3) := by decide +kernel
theorem d_mo_image_181 : decode prog_7_method_69_code 181 = .ok (.aload_n 0, 1) := by decide +kernel
theorem d_mo_image_182 : decode prog_7_method_69_code 182 = .ok (.getfield 138, 3) := by decide +kernel
theorem d_mo_image_185 : decode prog_7_method_69_code 185 = .ok (.ireturn, 1) := by decide +kernel
theorem d_mo_restore_0 : decode prog_7_method_70_code 0 = .ok (.aload_n 0, 1) := by decide +kernel
theorem d_mo_restore_1 : decode prog_7_method_70_code 1 = .ok (.getfield 257, 3) := by decide +kernel
theorem d_mo_restore_4 : decode prog_7_method_70_code 4 = .ok (.ifCond .eq 14, 3) := by decide +kernel
theorem d_mo_restore_7 : decode prog_7_method_70_code 7 = .ok (.aload_n 0, 1) := by decide +kernel
theorem d_mo_restore_8 : decode prog_7_method_70_code 8 = .ok (.getfield 260, 3) := by decide +kernel
theorem d_mo_restore_11 : decode prog_7_method_70_code 11 = .ok (.aload_n 0, 1) := by decide +kernel
theorem d_mo_restore_12 : decode prog_7_method_70_code 12 = .ok (.getfield 141, 3) := by decide +kernel
theorem d_mo_restore_15 : decode prog_7_method_70_code 15 = .ok (.if_icmp .eq 7, 3) := by decide +kernel
theorem d_mo_restore_18 : decode prog_7_method_70_code 18 = .ok (.sipush (-10103), 3) := by decide +kernel
theorem d_mo_restore_21 : decode prog_7_method_70_code 21 = .ok (.ireturn, 1) := by decide +kernel
theorem d_mo_restore_22 : decode prog_7_method_70_code 22 = .ok (.aload_n 0, 1) := by decide +kernel
theorem d_mo_restore_23 : decode prog_7_method_70_code 23 = .ok (.aload_n 0, 1) := by decide +kernel
theorem d_mo_restore_24 : decode prog_7_method_70_code 24 = .ok (.getfield 263, 3) := by decide +kernel
theorem d_mo_restore_27 : decode prog_7_method_70_code 27 = .ok (.putfield 144, 3) := by decide +kernel
theorem d_mo_restore_30 : decode prog_7_method_70_code 30 = .ok (.iconst 0, 1) := by decide +kernel
theorem d_mo_restore_31 : decode prog_7_method_70_code 31 = .ok (.istore_n 1, 1) := by decide +kernel
theorem d_mo_restore_32 : decode prog_7_method_70_code 32 = .ok (.iload_n 1, 1) := by decide +kernel
theorem d_mo_restore_33 : decode prog_7_method_70_code 33 = .ok (.iconst 4, 1) := by decide +kernel
theorem d_mo_restore_34 : decode prog_7_method_70_code 34 = .ok (.if_icmp .ge 69, 3) := by decide +kernel
theorem d_mo_restore_37 : decode prog_7_method_70_code 37 = .ok (.aload_n 0, 1) := by decide +kernel
theorem d_mo_restore_38 : decode prog_7_method_70_code 38 = .ok (.getfield 7, 3) := by decide +kernel
theorem d_mo_restore_41 : decode prog_7_method_70_code 41 = .ok (.iload_n 1, 1) := by decide +kernel
theorem d_mo_restore_42 : decode prog_7_method_70_code 42 = .ok (.aload_n 0, 1) := by decide +kernel
theorem d_mo_restore_43 : decode prog_7_method_70_code 43 = .ok (.getfield 62, 3) := by decide +kernel
theorem d_mo_restore_46 : decode prog_7_method_70_code 46 = .ok (.iload_n 1, 1) := by decide +kernel
theorem d_mo_restore_47 : decode prog_7_method_70_code 47 = .ok (.iaload, 1) := by decide +kernel
theorem d_mo_restore_48 : decode prog_7_method_70_code 48 = .ok (.iastore, 1) := by decide +kernel
theorem d_mo_restore_49 : decode prog_7_method_70_code 49 = .ok (.aload_n 0, 1) := by decide +kernel
theorem d_mo_restore_50 : decode prog_7_method_70_code 50 = .ok (.getfield 13, 3) := by decide +kernel
theorem d_mo_restore_53 : decode prog_7_method_70_code 53 = .ok (.iload_n 1, 1) := by decide +kernel
theorem d_mo_restore_54 : decode prog_7_method_70_code 54 = .ok (.aload_n 0, 1) := by decide +kernel
theorem d_mo_restore_55 : decode prog_7_method_70_code 55 = .ok (.getfield 65, 3) := by decide +kernel
theorem d_mo_restore_58 : decode prog_7_method_70_code 58 = .ok (.iload_n 1, 1) := by decide +kernel
theorem d_mo_restore_59 : decode prog_7_method_70_code 59 = .ok (.iaload, 1) := by decide +kernel
theorem d_mo_restore_60 : decode prog_7_method_70_code 60 = .ok (.iastore, 1) := by decide +kernel
theorem d_mo_restore_61 : decode prog_7_method_70_code 61 = .ok (.aload_n 0, 1) := by decide +kernel
theorem d_mo_restore_62 : decode prog_7_method_70_code 62 = .ok (.getfield 16, 3) := by decide +kernel
theorem d_mo_restore_65 : decode prog_7_method_70_code 65 = .ok (.iload_n 1, 1) := by decide +kernel
theorem d_mo_restore_66 : decode prog_7_method_70_code 66 = .ok (.aload_n 0, 1) := by decide +kernel
theorem d_mo_restore_67 : decode prog_7_method_70_code 67 = .ok (.getfield 68, 3) := by decide +kernel
theorem d_mo_restore_70 : decode prog_7_method_70_code 70 = .ok (.iload_n 1, 1) := by decide +kernel
theorem d_mo_restore_71 : decode prog_7_method_70_code 71 = .ok (.iaload, 1) := by decide +kernel
theorem d_mo_restore_72 : decode prog_7_method_70_code 72 = .ok (.iastore, 1) := by decide +kernel
theorem d_mo_restore_73 : decode prog_7_method_70_code 73 = .ok (.aload_n 0, 1) := by decide +kernel
theorem d_mo_restore_74 : decode prog_7_method_70_code 74 = .ok (.getfield 19, 3) := by decide +kernel
theorem d_mo_restore_77 : decode prog_7_method_70_code 77 = .ok (.iload_n 1, 1) := by decide +kernel
theorem d_mo_restore_78 : decode prog_7_method_70_code 78 = .ok (.aload_n 0, 1) := by decide +kernel
theorem d_mo_restore_79 : decode prog_7_method_70_code 79 = .ok (.getfield 71, 3) := by decide +kernel
theorem d_mo_restore_82 : decode prog_7_method_70_code 82 = .ok (.iload_n 1, 1) := by decide +kernel
theorem d_mo_restore_83 : decode prog_7_method_70_code 83 = .ok (.iaload, 1) := by decide +kernel
theorem d_mo_restore_84 : decode prog_7_method_70_code 84 = .ok (.iastore, 1) := by decide +kernel
theorem d_mo_restore_85 : decode prog_7_method_70_code 85 = .ok (.aload_n 0, 1) := by decide +kernel
theorem d_mo_restore_86 : decode prog_7_method_70_code 86 = .ok (.getfield 22, 3) := by decide +kernel
theorem d_mo_restore_89 : decode prog_7_method_70_code 89 = .ok (.iload_n 1, 1) := by decide +kernel
theorem d_mo_restore_90 : decode prog_7_method_70_code 90 = .ok (.aload_n 0, 1) := by decide +kernel
theorem d_mo_restore_91 : decode prog_7_method_70_code 91 = .ok (.getfield 74, 3) := by decide +kernel
theorem d_mo_restore_94 : decode prog_7_method_70_code 94 = .ok (.iload_n 1, 1) := by decide +kernel
theorem d_mo_restore_95 : decode prog_7_method_70_code 95 = .ok (.iaload, 1) := by decide +kernel
theorem d_mo_restore_96 : decode prog_7_method_70_code 96 = .ok (.iastore, 1) := by decide +kernel
theorem d_mo_restore_97 : decode prog_7_method_70_code 97 = .ok (.iinc 1 1, 3) := by decide +kernel
theorem d_mo_restore_100 : decode prog_7_method_70_code 100 = .ok (.goto (-68), 3) := by decide +kernel
theorem d_mo_restore_103 : decode prog_7_method_70_code 103 = .ok (.iconst 0, 1) := by decide +kernel
theorem d_mo_restore_104 : decode prog_7_method_70_code 104 = .ok (.istore_n 1, 1) := by decide +kernel
theorem d_mo_restore_105 : decode prog_7_method_70_code 105 = .ok (.iload_n 1, 1) := by decide +kernel
theorem d_mo_restore_106 : decode prog_7_method_70_code 106 = .ok (.bipush 36, 2) := by decide +kernel
theorem d_mo_restore_108 : decode prog_7_method_70_code 108 = .ok (.if_icmp .ge 21, 3) := by decide +kernel
theorem d_mo_restore_111 : decode prog_7_method_70_code 111 = .ok (.aload_n 0, 1) := by decide +kernel
theorem d_mo_restore_112 : decode prog_7_method_70_code 112 = .ok (.getfield 25, 3) := by decide +kernel
theorem d_mo_restore_115 : decode prog_7_method_70_code 115 = .ok (.iload_n 1, 1) := by decide +kernel
theorem d_mo_restore_116 : decode prog_7_method_70_code 116 = .ok (.aload_n 0, 1) := by decide +kernel
theorem d_mo_restore_117 : decode prog_7_method_70_code 117 = .ok (.getfield 77, 3) := by decide +kernel
theorem d_mo_restore_120 : decode prog_7_method_70_code 120 = .ok (.iload_n 1, 1) := by decide +kernel
theorem d_mo_restore_121 : decode prog_7_method_70_code 121 = .ok (.iaload, 1) := by decide +kernel
theorem d_mo_restore_122 : decode prog_7_method_70_code 122 = .ok (.iastore, 1) := by decide +kernel
theorem d_mo_restore_123 : decode prog_7_method_70_code 123 = .ok (.iinc 1 1, 3) := by decide +kernel
theorem d_mo_restore_126 : decode prog_7_method_70_code 126 = .ok (.goto (-21), 3) := by decide +kernel
theorem d_mo_restore_129 : decode prog_7_method_70_code 129 = .ok (.iconst 0, 1) := by decide +kernel
theorem d_mo_restore_130 : decode prog_7_method_70_code 130 = .ok (.istore_n 1, 1) := by decide +kernel
theorem d_mo_restore_131 : decode prog_7_method_70_code 131 = .ok (.iload_n 1, 1) := by decide +kernel
theorem d_mo_restore_132 : decode prog_7_method_70_code 132 = .ok (.bipush 6, 2) := by decide +kernel
theorem d_mo_restore_134 : decode prog_7_method_70_code 134 = .ok (.if_icmp .ge 45, 3) := by decide +kernel
theorem d_mo_restore_137 : decode prog_7_method_70_code 137 = .ok (.aload_n 0, 1) := by decide +kernel
theorem d_mo_restore_138 : decode prog_7_method_70_code 138 = .ok (.getfield 31, 3) := by decide +kernel
theorem d_mo_restore_141 : decode prog_7_method_70_code 141 = .ok (.iload_n 1, 1) := by decide +kernel
theorem d_mo_restore_142 : decode prog_7_method_70_code 142 = .ok (.aload_n 0, 1) := by decide +kernel
theorem d_mo_restore_143 : decode prog_7_method_70_code 143 = .ok (.getfield 80, 3) := by decide +kernel
theorem d_mo_restore_146 : decode prog_7_method_70_code 146 = .ok (.iload_n 1, 1) := by decide +kernel
theorem d_mo_restore_147 : decode prog_7_method_70_code 147 = .ok (.iaload, 1) := by decide +kernel
theorem d_mo_restore_148 : decode prog_7_method_70_code 148 = .ok (.iastore, 1) := by decide +kernel
theorem d_mo_restore_149 : decode prog_7_method_70_code 149 = .ok (.aload_n 0, 1) := by decide +kernel
theorem d_mo_restore_150 : decode prog_7_method_70_code 150 = .ok (.getfield 34, 3) := by decide +kernel
theorem d_mo_restore_153 : decode prog_7_method_70_code 153 = .ok (.iload_n 1, 1) := by decide +kernel
theorem d_mo_restore_154 : decode prog_7_method_70_code 154 = .ok (.aload_n 0, 1) := by decide +kernel
theorem d_mo_restore_155 : decode prog_7_method_70_code 155 = .ok (.getfield 83, 3) := by decide +kernel
theorem d_mo_restore_158 : decode prog_7_method_70_code 158 = .ok (.iload_n 1, 1) := by decide +kernel
theorem d_mo_restore_159 : decode prog_7_method_70_code 159 = .ok (.iaload, 1) := by decide +kernel
theorem d_mo_restore_160 : decode prog_7_method_70_code 160 = .ok (.iastore, 1) := by decide +kernel
theorem d_mo_restore_161 : decode prog_7_method_70_code 161 = .ok (.aload_n 0, 1) := by decide +kernel
theorem d_mo_restore_162 : decode prog_7_method_70_code 162 = .ok (.getfield 37, 3) := by decide +kernel
theorem d_mo_restore_165 : decode prog_7_method_70_code 165 = .ok (.iload_n 1, 1) := by decide +kernel
theorem d_mo_restore_166 : decode prog_7_method_70_code 166 = .ok (.aload_n 0, 1) := by decide +kernel
theorem d_mo_restore_167 : decode prog_7_method_70_code 167 = .ok (.getfield 86, 3) := by decide +kernel
theorem d_mo_restore_170 : decode prog_7_method_70_code 170 = .ok (.iload_n 1, 1) := by decide +kernel
theorem d_mo_restore_171 : decode prog_7_method_70_code 171 = .ok (.iaload, 1) := by decide +kernel
theorem d_mo_restore_172 : decode prog_7_method_70_code 172 = .ok (.iastore, 1) := by decide +kernel
theorem d_mo_restore_173 : decode prog_7_method_70_code 173 = .ok (.iinc 1 1, 3) := by decide +kernel
theorem d_mo_restore_176 : decode prog_7_method_70_code 176 = .ok (.goto (-45), 3) := by decide +kernel
theorem d_mo_restore_179 : decode prog_7_method_70_code 179 = .ok (.aload_n 0, 1) := by decide +kernel
theorem d_mo_restore_180 : decode prog_7_method_70_code 180 = .ok (.getfield 138, 3) := by decide +kernel
theorem d_mo_restore_183 : decode prog_7_method_70_code 183 = .ok (.ireturn, 1) := by decide +kernel
theorem d_mo_greatest_0 : decode prog_7_method_71_code 0 = .ok (.aload_n 0, 1) := by decide +kernel
theorem d_mo_greatest_1 : decode prog_7_method_71_code 1 = .ok (.getfield 138, 3) := by decide +kernel
theorem d_mo_greatest_4 : decode prog_7_method_71_code 4 = .ok (.ifCond .ne 7, 3) := by decide +kernel
theorem d_mo_greatest_7 : decode prog_7_method_71_code 7 = .ok (.iconst 0, 1) := by decide +kernel
theorem d_mo_greatest_8 : decode prog_7_method_71_code 8 = .ok (.goto 6, 3) := by decide +kernel
theorem d_mo_greatest_11 : decode prog_7_method_71_code 11 = .ok (.ldc_w 266, 3) := by decide +kernel
theorem d_mo_greatest_14 : decode prog_7_method_71_code 14 = .ok (.istore_n 1, 1) := by decide +kernel
theorem d_mo_greatest_15 : decode prog_7_method_71_code 15 = .ok (.iconst 0, 1) := by decide +kernel
theorem d_mo_greatest_16 : decode prog_7_method_71_code 16 = .ok (.istore_n 2, 1) := by decide +kernel
theorem d_mo_greatest_17 : decode prog_7_method_71_code 17 = .ok (.iload_n 2, 1) := by decide +kernel
theorem d_mo_greatest_18 : decode prog_7_method_71_code 18 = .ok (.aload_n 0, 1) := by decide +kernel
theorem d_mo_greatest_19 : decode prog_7_method_71_code 19 = .ok (.getfield 138, 3) := by decide +kernel
theorem d_mo_greatest_22 : decode prog_7_method_71_code 22 = .ok (.if_icmp .ge 45, 3) := by decide +kernel
theorem d_mo_greatest_25 : decode prog_7_method_71_code 25 = .ok (.iconst 0, 1) := by decide +kernel
theorem d_mo_greatest_26 : decode prog_7_method_71_code 26 = .ok (.istore_n 3, 1) := by decide +kernel
theorem d_mo_greatest_27 : decode prog_7_method_71_code 27 = .ok (.iload_n 3, 1) := by decide +kernel
theorem d_mo_greatest_28 : decode prog_7_method_71_code 28 = .ok (.sipush 144, 3) := by decide +kernel
theorem d_mo_greatest_31 : decode prog_7_method_71_code 31 = .ok (.if_icmp .ge 30, 3) := by decide +kernel
theorem d_mo_greatest_34 : decode prog_7_method_71_code 34 = .ok (.aload_n 0, 1) := by decide +kernel
theorem d_mo_greatest_35 : decode prog_7_method_71_code 35 = .ok (.iload_n 2, 1) := by decide +kernel
theorem d_mo_greatest_36 : decode prog_7_method_71_code 36 = .ok (.iload_n 3, 1) := by decide +kernel
theorem d_mo_greatest_37 : decode prog_7_method_71_code 37 = .ok (.invokevirtual 185, 3) := by decide +kernel
theorem d_mo_greatest_40 : decode prog_7_method_71_code 40 = .ok (.istore 4, 2) := by decide +kernel
theorem d_mo_greatest_42 : decode prog_7_method_71_code 42 = .ok (.iload 4, 2) := by decide +kernel
theorem d_mo_greatest_44 : decode prog_7_method_71_code 44 = .ok (.iload_n 1, 1) := by decide +kernel
theorem d_mo_greatest_45 : decode prog_7_method_71_code 45 = .ok (.if_icmp .le 8, 3) := by decide +kernel
theorem d_mo_greatest_48 : decode prog_7_method_71_code 48 = .ok (.iload 4, 2) := by decide +kernel
theorem d_mo_greatest_50 : decode prog_7_method_71_code 50 = .ok (.goto 4, 3) := by decide +kernel
theorem d_mo_greatest_53 : decode prog_7_method_71_code 53 = .ok (.iload_n 1, 1) := by decide +kernel
theorem d_mo_greatest_54 : decode prog_7_method_71_code 54 = .ok (.istore_n 1, 1) := by decide +kernel
theorem d_mo_greatest_55 : decode prog_7_method_71_code 55 = .ok (.iinc 3 1, 3) := by decide +kernel
theorem d_mo_greatest_58 : decode prog_7_method_71_code 58 = .ok (.goto (-31), 3) := by decide +kernel
theorem d_mo_greatest_61 : decode prog_7_method_71_code 61 = .ok (.iinc 2 1, 3) := by decide +kernel
theorem d_mo_greatest_64 : decode prog_7_method_71_code 64 = .ok (.goto (-47), 3) := by decide +kernel
theorem d_mo_greatest_67 : decode prog_7_method_71_code 67 = .ok (.iload_n 1, 1) := by decide +kernel
theorem d_mo_greatest_68 : decode prog_7_method_71_code 68 = .ok (.ireturn, 1) := by decide +kernel
theorem d_mo_ofPorts_0 : decode prog_7_method_72_code 0 = .ok (.iconst 0, 1) := by decide +kernel
theorem d_mo_ofPorts_1 : decode prog_7_method_72_code 1 = .ok (.istore_n 2, 1) := by decide +kernel
theorem d_mo_ofPorts_2 : decode prog_7_method_72_code 2 = .ok (.iconst 0, 1) := by decide +kernel
theorem d_mo_ofPorts_3 : decode prog_7_method_72_code 3 = .ok (.istore_n 3, 1) := by decide +kernel
theorem d_mo_ofPorts_4 : decode prog_7_method_72_code 4 = .ok (.iload_n 3, 1) := by decide +kernel
theorem d_mo_ofPorts_5 : decode prog_7_method_72_code 5 = .ok (.aload_n 0, 1) := by decide +kernel
theorem d_mo_ofPorts_6 : decode prog_7_method_72_code 6 = .ok (.getfield 138, 3) := by decide +kernel
theorem d_mo_ofPorts_9 : decode prog_7_method_72_code 9 = .ok (.if_icmp .ge 41, 3) := by decide +kernel
theorem d_mo_ofPorts_12 : decode prog_7_method_72_code 12 = .ok (.iload_n 2, 1) := by decide +kernel
theorem d_mo_ofPorts_13 : decode prog_7_method_72_code 13 = .ok (.iload_n 1, 1) := by decide +kernel
theorem d_mo_ofPorts_14 : decode prog_7_method_72_code 14 = .ok (.iconst 1, 1) := by decide +kernel
theorem d_mo_ofPorts_15 : decode prog_7_method_72_code 15 = .ok (.if_icmp .ne 12, 3) := by decide +kernel
theorem d_mo_ofPorts_18 : decode prog_7_method_72_code 18 = .ok (.aload_n 0, 1) := by decide +kernel
theorem d_mo_ofPorts_19 : decode prog_7_method_72_code 19 = .ok (.getfield 22, 3) := by decide +kernel
theorem d_mo_ofPorts_22 : decode prog_7_method_72_code 22 = .ok (.iload_n 3, 1) := by decide +kernel
theorem d_mo_ofPorts_23 : decode prog_7_method_72_code 23 = .ok (.iaload, 1) := by decide +kernel
theorem d_mo_ofPorts_24 : decode prog_7_method_72_code 24 = .ok (.goto 18, 3) := by decide +kernel
theorem d_mo_ofPorts_27 : decode prog_7_method_72_code 27 = .ok (.aload_n 0, 1) := by decide +kernel
theorem d_mo_ofPorts_28 : decode prog_7_method_72_code 28 = .ok (.getfield 7, 3) := by decide +kernel
theorem d_mo_ofPorts_31 : decode prog_7_method_72_code 31 = .ok (.iload_n 3, 1) := by decide +kernel
theorem d_mo_ofPorts_32 : decode prog_7_method_72_code 32 = .ok (.iaload, 1) := by decide +kernel
theorem d_mo_ofPorts_33 : decode prog_7_method_72_code 33 = .ok (.iconst 3, 1) := by decide +kernel
theorem d_mo_ofPorts_34 : decode prog_7_method_72_code 34 = .ok (.if_icmp .ne 7, 3) := by decide +kernel
theorem d_mo_ofPorts_37 : decode prog_7_method_72_code 37 = .ok (.iconst 1, 1) := by decide +kernel
theorem d_mo_ofPorts_38 : decode prog_7_method_72_code 38 = .ok (.goto 4, 3) := by decide +kernel
theorem d_mo_ofPorts_41 : decode prog_7_method_72_code 41 = .ok (.iconst 0, 1) := by decide +kernel
theorem d_mo_ofPorts_42 : decode prog_7_method_72_code 42 = .ok (.iadd, 1) := by decide +kernel
theorem d_mo_ofPorts_43 : decode prog_7_method_72_code 43 = .ok (.istore_n 2, 1) := by decide +kernel
theorem d_mo_ofPorts_44 : decode prog_7_method_72_code 44 = .ok (.iinc 3 1, 3) := by decide +kernel
theorem d_mo_ofPorts_47 : decode prog_7_method_72_code 47 = .ok (.goto (-43), 3) := by decide +kernel
theorem d_mo_ofPorts_50 : decode prog_7_method_72_code 50 = .ok (.iload_n 2, 1) := by decide +kernel
theorem d_mo_ofPorts_51 : decode prog_7_method_72_code 51 = .ok (.ireturn, 1) := by decide +kernel
theorem d_mo_howMany_0 : decode prog_7_method_73_code 0 = .ok (.iload_n 1, 1) := by decide +kernel
theorem d_mo_howMany_1 : decode prog_7_method_73_code 1 = .ok (.tableswitch 74 0 6 #[43, 48, 48, 54, 59, 64, 69], 43) := by decide +kernel
theorem d_mo_howMany_44 : decode prog_7_method_73_code 44 = .ok (.aload_n 0, 1) := by decide +kernel
theorem d_mo_howMany_45 : decode prog_7_method_73_code 45 = .ok (.getfield 138, 3) := by decide +kernel
