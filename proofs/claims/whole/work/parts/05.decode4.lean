theorem jd_M_pay_18 : decode jc_M_pay 18 = .ok (.aload_n 0, 1) := by decide +kernel
theorem jd_M_pay_19 : decode jc_M_pay 19 = .ok (.iconst (-1), 1) := by decide +kernel
theorem jd_M_pay_20 : decode jc_M_pay 20 = .ok (.putfield 69, 3) := by decide +kernel
theorem jd_M_pay_23 : decode jc_M_pay 23 = .ok (.iconst 0, 1) := by decide +kernel
theorem jd_M_pay_24 : decode jc_M_pay 24 = .ok (.istore_n 3, 1) := by decide +kernel
theorem jd_M_pay_25 : decode jc_M_pay 25 = .ok (.iconst 0, 1) := by decide +kernel
theorem jd_M_pay_26 : decode jc_M_pay 26 = .ok (.istore 4, 2) := by decide +kernel
theorem jd_M_pay_28 : decode jc_M_pay 28 = .ok (.iconst 0, 1) := by decide +kernel
theorem jd_M_pay_29 : decode jc_M_pay 29 = .ok (.istore 5, 2) := by decide +kernel
theorem jd_M_pay_31 : decode jc_M_pay 31 = .ok (.iload 5, 2) := by decide +kernel
theorem jd_M_pay_33 : decode jc_M_pay 33 = .ok (.iconst 4, 1) := by decide +kernel
theorem jd_M_pay_34 : decode jc_M_pay 34 = .ok (.if_icmp .ge 80, 3) := by decide +kernel
theorem jd_M_pay_37 : decode jc_M_pay 37 = .ok (.aload_n 0, 1) := by decide +kernel
theorem jd_M_pay_38 : decode jc_M_pay 38 = .ok (.iload 4, 2) := by decide +kernel
theorem jd_M_pay_40 : decode jc_M_pay 40 = .ok (.invokevirtual 112, 3) := by decide +kernel
theorem jd_M_pay_43 : decode jc_M_pay 43 = .ok (.istore 6, 2) := by decide +kernel
theorem jd_M_pay_45 : decode jc_M_pay 45 = .ok (.iload 4, 2) := by decide +kernel
theorem jd_M_pay_47 : decode jc_M_pay 47 = .ok (.iconst 1, 1) := by decide +kernel
theorem jd_M_pay_48 : decode jc_M_pay 48 = .ok (.iload 6, 2) := by decide +kernel
theorem jd_M_pay_50 : decode jc_M_pay 50 = .ok (.ishl, 1) := by decide +kernel
theorem jd_M_pay_51 : decode jc_M_pay 51 = .ok (.ior, 1) := by decide +kernel
theorem jd_M_pay_52 : decode jc_M_pay 52 = .ok (.istore 4, 2) := by decide +kernel
theorem jd_M_pay_54 : decode jc_M_pay 54 = .ok (.aload_n 0, 1) := by decide +kernel
theorem jd_M_pay_55 : decode jc_M_pay 55 = .ok (.getfield 35, 3) := by decide +kernel
theorem jd_M_pay_58 : decode jc_M_pay 58 = .ok (.iload 6, 2) := by decide +kernel
theorem jd_M_pay_60 : decode jc_M_pay 60 = .ok (.iaload, 1) := by decide +kernel
theorem jd_M_pay_61 : decode jc_M_pay 61 = .ok (.iload_n 2, 1) := by decide +kernel
theorem jd_M_pay_62 : decode jc_M_pay 62 = .ok (.if_icmp .ge 13, 3) := by decide +kernel
theorem jd_M_pay_65 : decode jc_M_pay 65 = .ok (.aload_n 0, 1) := by decide +kernel
theorem jd_M_pay_66 : decode jc_M_pay 66 = .ok (.getfield 35, 3) := by decide +kernel
theorem jd_M_pay_69 : decode jc_M_pay 69 = .ok (.iload 6, 2) := by decide +kernel
theorem jd_M_pay_71 : decode jc_M_pay 71 = .ok (.iaload, 1) := by decide +kernel
theorem jd_M_pay_72 : decode jc_M_pay 72 = .ok (.goto 4, 3) := by decide +kernel
theorem jd_M_pay_75 : decode jc_M_pay 75 = .ok (.iload_n 2, 1) := by decide +kernel
theorem jd_M_pay_76 : decode jc_M_pay 76 = .ok (.istore 7, 2) := by decide +kernel
theorem jd_M_pay_78 : decode jc_M_pay 78 = .ok (.iload_n 2, 1) := by decide +kernel
theorem jd_M_pay_79 : decode jc_M_pay 79 = .ok (.iload 7, 2) := by decide +kernel
theorem jd_M_pay_81 : decode jc_M_pay 81 = .ok (.isub, 1) := by decide +kernel
theorem jd_M_pay_82 : decode jc_M_pay 82 = .ok (.istore_n 2, 1) := by decide +kernel
theorem jd_M_pay_83 : decode jc_M_pay 83 = .ok (.aload_n 0, 1) := by decide +kernel
theorem jd_M_pay_84 : decode jc_M_pay 84 = .ok (.getfield 32, 3) := by decide +kernel
theorem jd_M_pay_87 : decode jc_M_pay 87 = .ok (.iload 6, 2) := by decide +kernel
theorem jd_M_pay_89 : decode jc_M_pay 89 = .ok (.dup2, 1) := by decide +kernel
theorem jd_M_pay_90 : decode jc_M_pay 90 = .ok (.iaload, 1) := by decide +kernel
theorem jd_M_pay_91 : decode jc_M_pay 91 = .ok (.iload 7, 2) := by decide +kernel
theorem jd_M_pay_93 : decode jc_M_pay 93 = .ok (.isub, 1) := by decide +kernel
theorem jd_M_pay_94 : decode jc_M_pay 94 = .ok (.iastore, 1) := by decide +kernel
theorem jd_M_pay_95 : decode jc_M_pay 95 = .ok (.iload_n 3, 1) := by decide +kernel
theorem jd_M_pay_96 : decode jc_M_pay 96 = .ok (.iload 7, 2) := by decide +kernel
theorem jd_M_pay_98 : decode jc_M_pay 98 = .ok (.aload_n 0, 1) := by decide +kernel
theorem jd_M_pay_99 : decode jc_M_pay 99 = .ok (.getfield 29, 3) := by decide +kernel
theorem jd_M_pay_102 : decode jc_M_pay 102 = .ok (.iload 6, 2) := by decide +kernel
theorem jd_M_pay_104 : decode jc_M_pay 104 = .ok (.iaload, 1) := by decide +kernel
theorem jd_M_pay_105 : decode jc_M_pay 105 = .ok (.imul, 1) := by decide +kernel
theorem jd_M_pay_106 : decode jc_M_pay 106 = .ok (.iadd, 1) := by decide +kernel
theorem jd_M_pay_107 : decode jc_M_pay 107 = .ok (.istore_n 3, 1) := by decide +kernel
theorem jd_M_pay_108 : decode jc_M_pay 108 = .ok (.iinc 5 1, 3) := by decide +kernel
theorem jd_M_pay_111 : decode jc_M_pay 111 = .ok (.goto (-80), 3) := by decide +kernel
theorem jd_M_pay_114 : decode jc_M_pay 114 = .ok (.aload_n 0, 1) := by decide +kernel
theorem jd_M_pay_115 : decode jc_M_pay 115 = .ok (.iload_n 1, 1) := by decide +kernel
theorem jd_M_pay_116 : decode jc_M_pay 116 = .ok (.putfield 115, 3) := by decide +kernel
theorem jd_M_pay_119 : decode jc_M_pay 119 = .ok (.aload_n 0, 1) := by decide +kernel
theorem jd_M_pay_120 : decode jc_M_pay 120 = .ok (.iload_n 3, 1) := by decide +kernel
theorem jd_M_pay_121 : decode jc_M_pay 121 = .ok (.putfield 118, 3) := by decide +kernel
theorem jd_M_pay_124 : decode jc_M_pay 124 = .ok (.aload_n 0, 1) := by decide +kernel
theorem jd_M_pay_125 : decode jc_M_pay 125 = .ok (.dup, 1) := by decide +kernel
theorem jd_M_pay_126 : decode jc_M_pay 126 = .ok (.getfield 121, 3) := by decide +kernel
theorem jd_M_pay_129 : decode jc_M_pay 129 = .ok (.iload_n 3, 1) := by decide +kernel
theorem jd_M_pay_130 : decode jc_M_pay 130 = .ok (.iadd, 1) := by decide +kernel
theorem jd_M_pay_131 : decode jc_M_pay 131 = .ok (.putfield 121, 3) := by decide +kernel
theorem jd_M_pay_134 : decode jc_M_pay 134 = .ok (.return_, 1) := by decide +kernel
theorem jd_M_greatest_0 : decode jc_M_greatest 0 = .ok (.iconst (-1), 1) := by decide +kernel
theorem jd_M_greatest_1 : decode jc_M_greatest 1 = .ok (.istore_n 2, 1) := by decide +kernel
theorem jd_M_greatest_2 : decode jc_M_greatest 2 = .ok (.iconst 0, 1) := by decide +kernel
theorem jd_M_greatest_3 : decode jc_M_greatest 3 = .ok (.istore_n 3, 1) := by decide +kernel
theorem jd_M_greatest_4 : decode jc_M_greatest 4 = .ok (.iload_n 3, 1) := by decide +kernel
theorem jd_M_greatest_5 : decode jc_M_greatest 5 = .ok (.iconst 4, 1) := by decide +kernel
theorem jd_M_greatest_6 : decode jc_M_greatest 6 = .ok (.if_icmp .ge 38, 3) := by decide +kernel
theorem jd_M_greatest_9 : decode jc_M_greatest 9 = .ok (.iload_n 1, 1) := by decide +kernel
theorem jd_M_greatest_10 : decode jc_M_greatest 10 = .ok (.iconst 1, 1) := by decide +kernel
theorem jd_M_greatest_11 : decode jc_M_greatest 11 = .ok (.iload_n 3, 1) := by decide +kernel
theorem jd_M_greatest_12 : decode jc_M_greatest 12 = .ok (.ishl, 1) := by decide +kernel
theorem jd_M_greatest_13 : decode jc_M_greatest 13 = .ok (.iand, 1) := by decide +kernel
theorem jd_M_greatest_14 : decode jc_M_greatest 14 = .ok (.ifCond .ne 24, 3) := by decide +kernel
theorem jd_M_greatest_17 : decode jc_M_greatest 17 = .ok (.iload_n 2, 1) := by decide +kernel
theorem jd_M_greatest_18 : decode jc_M_greatest 18 = .ok (.ifCond .lt 18, 3) := by decide +kernel
theorem jd_M_greatest_21 : decode jc_M_greatest 21 = .ok (.aload_n 0, 1) := by decide +kernel
theorem jd_M_greatest_22 : decode jc_M_greatest 22 = .ok (.getfield 29, 3) := by decide +kernel
theorem jd_M_greatest_25 : decode jc_M_greatest 25 = .ok (.iload_n 3, 1) := by decide +kernel
theorem jd_M_greatest_26 : decode jc_M_greatest 26 = .ok (.iaload, 1) := by decide +kernel
theorem jd_M_greatest_27 : decode jc_M_greatest 27 = .ok (.aload_n 0, 1) := by decide +kernel
theorem jd_M_greatest_28 : decode jc_M_greatest 28 = .ok (.getfield 29, 3) := by decide +kernel
theorem jd_M_greatest_31 : decode jc_M_greatest 31 = .ok (.iload_n 2, 1) := by decide +kernel
theorem jd_M_greatest_32 : decode jc_M_greatest 32 = .ok (.iaload, 1) := by decide +kernel
theorem jd_M_greatest_33 : decode jc_M_greatest 33 = .ok (.if_icmp .le 5, 3) := by decide +kernel
theorem jd_M_greatest_36 : decode jc_M_greatest 36 = .ok (.iload_n 3, 1) := by decide +kernel
theorem jd_M_greatest_37 : decode jc_M_greatest 37 = .ok (.istore_n 2, 1) := by decide +kernel
theorem jd_M_greatest_38 : decode jc_M_greatest 38 = .ok (.iinc 3 1, 3) := by decide +kernel
theorem jd_M_greatest_41 : decode jc_M_greatest 41 = .ok (.goto (-37), 3) := by decide +kernel
theorem jd_M_greatest_44 : decode jc_M_greatest 44 = .ok (.iload_n 2, 1) := by decide +kernel
theorem jd_M_greatest_45 : decode jc_M_greatest 45 = .ok (.ireturn, 1) := by decide +kernel
theorem jd_M_finish_0 : decode jc_M_finish 0 = .ok (.aload_n 0, 1) := by decide +kernel
theorem jd_M_finish_1 : decode jc_M_finish 1 = .ok (.getfield 42, 3) := by decide +kernel
theorem jd_M_finish_4 : decode jc_M_finish 4 = .ok (.iload_n 1, 1) := by decide +kernel
theorem jd_M_finish_5 : decode jc_M_finish 5 = .ok (.iconst 3, 1) := by decide +kernel
theorem jd_M_finish_6 : decode jc_M_finish 6 = .ok (.iastore, 1) := by decide +kernel
theorem jd_M_finish_7 : decode jc_M_finish 7 = .ok (.aload_n 0, 1) := by decide +kernel
theorem jd_M_finish_8 : decode jc_M_finish 8 = .ok (.getfield 51, 3) := by decide +kernel
theorem jd_M_finish_11 : decode jc_M_finish 11 = .ok (.iload_n 1, 1) := by decide +kernel
theorem jd_M_finish_12 : decode jc_M_finish 12 = .ok (.iload_n 2, 1) := by decide +kernel
theorem jd_M_finish_13 : decode jc_M_finish 13 = .ok (.iastore, 1) := by decide +kernel
theorem jd_M_finish_14 : decode jc_M_finish 14 = .ok (.iload_n 2, 1) := by decide +kernel
theorem jd_M_finish_15 : decode jc_M_finish 15 = .ok (.aload_n 0, 1) := by decide +kernel
theorem jd_M_finish_16 : decode jc_M_finish 16 = .ok (.getfield 48, 3) := by decide +kernel
theorem jd_M_finish_19 : decode jc_M_finish 19 = .ok (.iload_n 1, 1) := by decide +kernel
theorem jd_M_finish_20 : decode jc_M_finish 20 = .ok (.iaload, 1) := by decide +kernel
theorem jd_M_finish_21 : decode jc_M_finish 21 = .ok (.if_icmp .ge 16, 3) := by decide +kernel
theorem jd_M_finish_24 : decode jc_M_finish 24 = .ok (.aload_n 0, 1) := by decide +kernel
theorem jd_M_finish_25 : decode jc_M_finish 25 = .ok (.iload_n 1, 1) := by decide +kernel
theorem jd_M_finish_26 : decode jc_M_finish 26 = .ok (.aload_n 0, 1) := by decide +kernel
theorem jd_M_finish_27 : decode jc_M_finish 27 = .ok (.getfield 48, 3) := by decide +kernel
theorem jd_M_finish_30 : decode jc_M_finish 30 = .ok (.iload_n 1, 1) := by decide +kernel
theorem jd_M_finish_31 : decode jc_M_finish 31 = .ok (.iaload, 1) := by decide +kernel
theorem jd_M_finish_32 : decode jc_M_finish 32 = .ok (.iload_n 2, 1) := by decide +kernel
theorem jd_M_finish_33 : decode jc_M_finish 33 = .ok (.isub, 1) := by decide +kernel
theorem jd_M_finish_34 : decode jc_M_finish 34 = .ok (.invokevirtual 124, 3) := by decide +kernel
theorem jd_M_finish_37 : decode jc_M_finish 37 = .ok (.return_, 1) := by decide +kernel
theorem jd_M_mix_0 : decode jc_M_mix 0 = .ok (.aload_n 0, 1) := by decide +kernel
theorem jd_M_mix_1 : decode jc_M_mix 1 = .ok (.iconst 0, 1) := by decide +kernel
theorem jd_M_mix_2 : decode jc_M_mix 2 = .ok (.putfield 72, 3) := by decide +kernel
theorem jd_M_mix_5 : decode jc_M_mix 5 = .ok (.iload_n 1, 1) := by decide +kernel
theorem jd_M_mix_6 : decode jc_M_mix 6 = .ok (.iconst 0, 1) := by decide +kernel
theorem jd_M_mix_7 : decode jc_M_mix 7 = .ok (.iconst 3, 1) := by decide +kernel
theorem jd_M_mix_8 : decode jc_M_mix 8 = .ok (.invokestatic 75, 3) := by decide +kernel
theorem jd_M_mix_11 : decode jc_M_mix 11 = .ok (.ifCond .eq 14, 3) := by decide +kernel
theorem jd_M_mix_14 : decode jc_M_mix 14 = .ok (.iload_n 2, 1) := by decide +kernel
theorem jd_M_mix_15 : decode jc_M_mix 15 = .ok (.iconst 1, 1) := by decide +kernel
theorem jd_M_mix_16 : decode jc_M_mix 16 = .ok (.sipush 5000, 3) := by decide +kernel
theorem jd_M_mix_19 : decode jc_M_mix 19 = .ok (.invokestatic 75, 3) := by decide +kernel
theorem jd_M_mix_22 : decode jc_M_mix 22 = .ok (.ifCond .ne 9, 3) := by decide +kernel
theorem jd_M_mix_25 : decode jc_M_mix 25 = .ok (.aload_n 0, 1) := by decide +kernel
theorem jd_M_mix_26 : decode jc_M_mix 26 = .ok (.iconst 1, 1) := by decide +kernel
theorem jd_M_mix_27 : decode jc_M_mix 27 = .ok (.invokevirtual 80, 3) := by decide +kernel
theorem jd_M_mix_30 : decode jc_M_mix 30 = .ok (.ireturn, 1) := by decide +kernel
theorem jd_M_mix_31 : decode jc_M_mix 31 = .ok (.aload_n 0, 1) := by decide +kernel
theorem jd_M_mix_32 : decode jc_M_mix 32 = .ok (.iload_n 2, 1) := by decide +kernel
theorem jd_M_mix_33 : decode jc_M_mix 33 = .ok (.invokevirtual 146, 3) := by decide +kernel
theorem jd_M_mix_36 : decode jc_M_mix 36 = .ok (.ifCond .eq 12, 3) := by decide +kernel
theorem jd_M_mix_39 : decode jc_M_mix 39 = .ok (.aload_n 0, 1) := by decide +kernel
theorem jd_M_mix_40 : decode jc_M_mix 40 = .ok (.getfield 35, 3) := by decide +kernel
theorem jd_M_mix_43 : decode jc_M_mix 43 = .ok (.iload_n 1, 1) := by decide +kernel
theorem jd_M_mix_44 : decode jc_M_mix 44 = .ok (.iaload, 1) := by decide +kernel
theorem jd_M_mix_45 : decode jc_M_mix 45 = .ok (.goto 8, 3) := by decide +kernel
theorem jd_M_mix_48 : decode jc_M_mix 48 = .ok (.aload_n 0, 1) := by decide +kernel
theorem jd_M_mix_49 : decode jc_M_mix 49 = .ok (.iconst 2, 1) := by decide +kernel
theorem jd_M_mix_50 : decode jc_M_mix 50 = .ok (.invokevirtual 80, 3) := by decide +kernel
theorem jd_M_mix_53 : decode jc_M_mix 53 = .ok (.ireturn, 1) := by decide +kernel
theorem jd_M_line_0 : decode jc_M_line 0 = .ok (.aload_n 0, 1) := by decide +kernel
theorem jd_M_line_1 : decode jc_M_line 1 = .ok (.iconst 0, 1) := by decide +kernel
theorem jd_M_line_2 : decode jc_M_line 2 = .ok (.putfield 72, 3) := by decide +kernel
theorem jd_M_line_5 : decode jc_M_line 5 = .ok (.iload_n 1, 1) := by decide +kernel
theorem jd_M_line_6 : decode jc_M_line 6 = .ok (.iconst 0, 1) := by decide +kernel
theorem jd_M_line_7 : decode jc_M_line 7 = .ok (.iconst 3, 1) := by decide +kernel
theorem jd_M_line_8 : decode jc_M_line 8 = .ok (.invokestatic 75, 3) := by decide +kernel
theorem jd_M_line_11 : decode jc_M_line 11 = .ok (.ifCond .ne 9, 3) := by decide +kernel
theorem jd_M_line_14 : decode jc_M_line 14 = .ok (.aload_n 0, 1) := by decide +kernel
theorem jd_M_line_15 : decode jc_M_line 15 = .ok (.iconst 1, 1) := by decide +kernel
theorem jd_M_line_16 : decode jc_M_line 16 = .ok (.invokevirtual 80, 3) := by decide +kernel
theorem jd_M_line_19 : decode jc_M_line 19 = .ok (.ireturn, 1) := by decide +kernel
theorem jd_M_line_20 : decode jc_M_line 20 = .ok (.aload_n 0, 1) := by decide +kernel
theorem jd_M_line_21 : decode jc_M_line 21 = .ok (.getfield 103, 3) := by decide +kernel
theorem jd_M_line_24 : decode jc_M_line 24 = .ok (.bipush 8, 2) := by decide +kernel
theorem jd_M_line_26 : decode jc_M_line 26 = .ok (.if_icmp .ne 9, 3) := by decide +kernel
theorem jd_M_line_29 : decode jc_M_line 29 = .ok (.aload_n 0, 1) := by decide +kernel
theorem jd_M_line_30 : decode jc_M_line 30 = .ok (.iconst 2, 1) := by decide +kernel
theorem jd_M_line_31 : decode jc_M_line 31 = .ok (.invokevirtual 80, 3) := by decide +kernel
theorem jd_M_line_34 : decode jc_M_line 34 = .ok (.ireturn, 1) := by decide +kernel
theorem jd_M_line_35 : decode jc_M_line 35 = .ok (.aload_n 0, 1) := by decide +kernel
theorem jd_M_line_36 : decode jc_M_line 36 = .ok (.getfield 66, 3) := by decide +kernel
theorem jd_M_line_39 : decode jc_M_line 39 = .ok (.aload_n 0, 1) := by decide +kernel
theorem jd_M_line_40 : decode jc_M_line 40 = .ok (.getfield 103, 3) := by decide +kernel
theorem jd_M_line_43 : decode jc_M_line 43 = .ok (.iload_n 1, 1) := by decide +kernel
theorem jd_M_line_44 : decode jc_M_line 44 = .ok (.iastore, 1) := by decide +kernel
theorem jd_M_line_45 : decode jc_M_line 45 = .ok (.aload_n 0, 1) := by decide +kernel
theorem jd_M_line_46 : decode jc_M_line 46 = .ok (.dup, 1) := by decide +kernel
theorem jd_M_line_47 : decode jc_M_line 47 = .ok (.getfield 103, 3) := by decide +kernel
theorem jd_M_line_50 : decode jc_M_line 50 = .ok (.iconst 1, 1) := by decide +kernel
theorem jd_M_line_51 : decode jc_M_line 51 = .ok (.iadd, 1) := by decide +kernel
theorem jd_M_line_52 : decode jc_M_line 52 = .ok (.putfield 103, 3) := by decide +kernel
theorem jd_M_line_55 : decode jc_M_line 55 = .ok (.aload_n 0, 1) := by decide +kernel
theorem jd_M_line_56 : decode jc_M_line 56 = .ok (.getfield 103, 3) := by decide +kernel
theorem jd_M_line_59 : decode jc_M_line 59 = .ok (.ireturn, 1) := by decide +kernel
theorem jd_M_jam_0 : decode jc_M_jam 0 = .ok (.aload_n 0, 1) := by decide +kernel
theorem jd_M_jam_1 : decode jc_M_jam 1 = .ok (.iconst 0, 1) := by decide +kernel
theorem jd_M_jam_2 : decode jc_M_jam 2 = .ok (.putfield 72, 3) := by decide +kernel
theorem jd_M_jam_5 : decode jc_M_jam 5 = .ok (.iload_n 1, 1) := by decide +kernel
theorem jd_M_jam_6 : decode jc_M_jam 6 = .ok (.iconst (-1), 1) := by decide +kernel
theorem jd_M_jam_7 : decode jc_M_jam 7 = .ok (.bipush 100, 2) := by decide +kernel
theorem jd_M_jam_9 : decode jc_M_jam 9 = .ok (.invokestatic 75, 3) := by decide +kernel
theorem jd_M_jam_12 : decode jc_M_jam 12 = .ok (.ifCond .ne 9, 3) := by decide +kernel
theorem jd_M_jam_15 : decode jc_M_jam 15 = .ok (.aload_n 0, 1) := by decide +kernel
theorem jd_M_jam_16 : decode jc_M_jam 16 = .ok (.iconst 1, 1) := by decide +kernel
theorem jd_M_jam_17 : decode jc_M_jam 17 = .ok (.invokevirtual 80, 3) := by decide +kernel
theorem jd_M_jam_20 : decode jc_M_jam 20 = .ok (.ireturn, 1) := by decide +kernel
theorem jd_M_jam_21 : decode jc_M_jam 21 = .ok (.aload_n 0, 1) := by decide +kernel
theorem jd_M_jam_22 : decode jc_M_jam 22 = .ok (.iload_n 1, 1) := by decide +kernel
theorem jd_M_jam_23 : decode jc_M_jam 23 = .ok (.putfield 69, 3) := by decide +kernel
theorem jd_M_jam_26 : decode jc_M_jam 26 = .ok (.iload_n 1, 1) := by decide +kernel
theorem jd_M_jam_27 : decode jc_M_jam 27 = .ok (.ifCond .ge 7, 3) := by decide +kernel
theorem jd_M_jam_30 : decode jc_M_jam 30 = .ok (.iconst 0, 1) := by decide +kernel
theorem jd_M_jam_31 : decode jc_M_jam 31 = .ok (.goto 4, 3) := by decide +kernel
theorem jd_M_jam_34 : decode jc_M_jam 34 = .ok (.iconst 1, 1) := by decide +kernel
theorem jd_M_jam_35 : decode jc_M_jam 35 = .ok (.ireturn, 1) := by decide +kernel
theorem jd_M_power_0 : decode jc_M_power 0 = .ok (.aload_n 0, 1) := by decide +kernel
theorem jd_M_power_1 : decode jc_M_power 1 = .ok (.iconst 0, 1) := by decide +kernel
theorem jd_M_power_2 : decode jc_M_power 2 = .ok (.putfield 72, 3) := by decide +kernel
theorem jd_M_power_5 : decode jc_M_power 5 = .ok (.iload_n 1, 1) := by decide +kernel
theorem jd_M_power_6 : decode jc_M_power 6 = .ok (.iconst 0, 1) := by decide +kernel
theorem jd_M_power_7 : decode jc_M_power 7 = .ok (.iconst 4, 1) := by decide +kernel
theorem jd_M_power_8 : decode jc_M_power 8 = .ok (.invokestatic 75, 3) := by decide +kernel
theorem jd_M_power_11 : decode jc_M_power 11 = .ok (.ifCond .ne 9, 3) := by decide +kernel
theorem jd_M_power_14 : decode jc_M_power 14 = .ok (.aload_n 0, 1) := by decide +kernel
theorem jd_M_power_15 : decode jc_M_power 15 = .ok (.iconst 1, 1) := by decide +kernel
theorem jd_M_power_16 : decode jc_M_power 16 = .ok (.invokevirtual 80, 3) := by decide +kernel
theorem jd_M_power_19 : decode jc_M_power 19 = .ok (.ireturn, 1) := by decide +kernel
theorem jd_M_power_20 : decode jc_M_power 20 = .ok (.aload_n 0, 1) := by decide +kernel
theorem jd_M_power_21 : decode jc_M_power 21 = .ok (.iload_n 1, 1) := by decide +kernel
theorem jd_M_power_22 : decode jc_M_power 22 = .ok (.putfield 109, 3) := by decide +kernel
theorem jd_M_power_25 : decode jc_M_power 25 = .ok (.iload_n 1, 1) := by decide +kernel
theorem jd_M_power_26 : decode jc_M_power 26 = .ok (.ifCond .ne 7, 3) := by decide +kernel
theorem jd_M_power_29 : decode jc_M_power 29 = .ok (.iconst 0, 1) := by decide +kernel
theorem jd_M_power_30 : decode jc_M_power 30 = .ok (.goto 4, 3) := by decide +kernel
theorem jd_M_power_33 : decode jc_M_power 33 = .ok (.iconst 1, 1) := by decide +kernel
theorem jd_M_power_34 : decode jc_M_power 34 = .ok (.ireturn, 1) := by decide +kernel
theorem jd_M_boot_0 : decode jc_M_boot 0 = .ok (.aload_n 0, 1) := by decide +kernel
theorem jd_M_boot_1 : decode jc_M_boot 1 = .ok (.iconst 0, 1) := by decide +kernel
theorem jd_M_boot_2 : decode jc_M_boot 2 = .ok (.putfield 72, 3) := by decide +kernel
theorem jd_M_boot_5 : decode jc_M_boot 5 = .ok (.aload_n 0, 1) := by decide +kernel
theorem jd_M_boot_6 : decode jc_M_boot 6 = .ok (.getfield 84, 3) := by decide +kernel
theorem jd_M_boot_9 : decode jc_M_boot 9 = .ok (.ifCond .ne 9, 3) := by decide +kernel
theorem jd_M_boot_12 : decode jc_M_boot 12 = .ok (.aload_n 0, 1) := by decide +kernel
theorem jd_M_boot_13 : decode jc_M_boot 13 = .ok (.iconst 1, 1) := by decide +kernel
theorem jd_M_boot_14 : decode jc_M_boot 14 = .ok (.invokevirtual 80, 3) := by decide +kernel
theorem jd_M_boot_17 : decode jc_M_boot 17 = .ok (.ireturn, 1) := by decide +kernel
theorem jd_M_boot_18 : decode jc_M_boot 18 = .ok (.aload_n 0, 1) := by decide +kernel
theorem jd_M_boot_19 : decode jc_M_boot 19 = .ok (.iconst 0, 1) := by decide +kernel
theorem jd_M_boot_20 : decode jc_M_boot 20 = .ok (.putfield 84, 3) := by decide +kernel
theorem jd_M_boot_23 : decode jc_M_boot 23 = .ok (.aload_n 0, 1) := by decide +kernel
theorem jd_M_boot_24 : decode jc_M_boot 24 = .ok (.getfield 149, 3) := by decide +kernel
theorem jd_M_boot_27 : decode jc_M_boot 27 = .ok (.istore_n 1, 1) := by decide +kernel
theorem jd_M_boot_28 : decode jc_M_boot 28 = .ok (.iload_n 1, 1) := by decide +kernel
theorem jd_M_boot_29 : decode jc_M_boot 29 = .ok (.ifCond .le 34, 3) := by decide +kernel
theorem jd_M_boot_32 : decode jc_M_boot 32 = .ok (.aload_n 0, 1) := by decide +kernel
theorem jd_M_boot_33 : decode jc_M_boot 33 = .ok (.getfield 42, 3) := by decide +kernel
theorem jd_M_boot_36 : decode jc_M_boot 36 = .ok (.iload_n 1, 1) := by decide +kernel
theorem jd_M_boot_37 : decode jc_M_boot 37 = .ok (.iaload, 1) := by decide +kernel
theorem jd_M_boot_38 : decode jc_M_boot 38 = .ok (.iconst 1, 1) := by decide +kernel
theorem jd_M_boot_39 : decode jc_M_boot 39 = .ok (.if_icmp .ne 24, 3) := by decide +kernel
theorem jd_M_boot_42 : decode jc_M_boot 42 = .ok (.aload_n 0, 1) := by decide +kernel
theorem jd_M_boot_43 : decode jc_M_boot 43 = .ok (.getfield 42, 3) := by decide +kernel
theorem jd_M_boot_46 : decode jc_M_boot 46 = .ok (.iload_n 1, 1) := by decide +kernel
theorem jd_M_boot_47 : decode jc_M_boot 47 = .ok (.iconst 4, 1) := by decide +kernel
theorem jd_M_boot_48 : decode jc_M_boot 48 = .ok (.iastore, 1) := by decide +kernel
theorem jd_M_boot_49 : decode jc_M_boot 49 = .ok (.aload_n 0, 1) := by decide +kernel
theorem jd_M_boot_50 : decode jc_M_boot 50 = .ok (.iload_n 1, 1) := by decide +kernel
theorem jd_M_boot_51 : decode jc_M_boot 51 = .ok (.aload_n 0, 1) := by decide +kernel
theorem jd_M_boot_52 : decode jc_M_boot 52 = .ok (.getfield 48, 3) := by decide +kernel
theorem jd_M_boot_55 : decode jc_M_boot 55 = .ok (.iload_n 1, 1) := by decide +kernel
theorem jd_M_boot_56 : decode jc_M_boot 56 = .ok (.iaload, 1) := by decide +kernel
theorem jd_M_boot_57 : decode jc_M_boot 57 = .ok (.invokevirtual 124, 3) := by decide +kernel
theorem jd_M_boot_60 : decode jc_M_boot 60 = .ok (.goto 38, 3) := by decide +kernel
theorem jd_M_boot_63 : decode jc_M_boot 63 = .ok (.iload_n 1, 1) := by decide +kernel
theorem jd_M_boot_64 : decode jc_M_boot 64 = .ok (.ifCond .le 34, 3) := by decide +kernel
theorem jd_M_boot_67 : decode jc_M_boot 67 = .ok (.aload_n 0, 1) := by decide +kernel
theorem jd_M_boot_68 : decode jc_M_boot 68 = .ok (.getfield 42, 3) := by decide +kernel
theorem jd_M_boot_71 : decode jc_M_boot 71 = .ok (.iload_n 1, 1) := by decide +kernel
theorem jd_M_boot_72 : decode jc_M_boot 72 = .ok (.iaload, 1) := by decide +kernel
theorem jd_M_boot_73 : decode jc_M_boot 73 = .ok (.iconst 2, 1) := by decide +kernel
theorem jd_M_boot_74 : decode jc_M_boot 74 = .ok (.if_icmp .ne 24, 3) := by decide +kernel
theorem jd_M_boot_77 : decode jc_M_boot 77 = .ok (.aload_n 0, 1) := by decide +kernel
theorem jd_M_boot_78 : decode jc_M_boot 78 = .ok (.iload_n 1, 1) := by decide +kernel
theorem jd_M_boot_79 : decode jc_M_boot 79 = .ok (.aload_n 0, 1) := by decide +kernel
theorem jd_M_boot_80 : decode jc_M_boot 80 = .ok (.getfield 115, 3) := by decide +kernel
theorem jd_M_boot_83 : decode jc_M_boot 83 = .ok (.iload_n 1, 1) := by decide +kernel
theorem jd_M_boot_84 : decode jc_M_boot 84 = .ok (.if_icmp .ne 10, 3) := by decide +kernel
theorem jd_M_boot_87 : decode jc_M_boot 87 = .ok (.aload_n 0, 1) := by decide +kernel
theorem jd_M_boot_88 : decode jc_M_boot 88 = .ok (.getfield 118, 3) := by decide +kernel
theorem jd_M_boot_91 : decode jc_M_boot 91 = .ok (.goto 4, 3) := by decide +kernel
theorem jd_M_boot_94 : decode jc_M_boot 94 = .ok (.iconst 0, 1) := by decide +kernel
theorem jd_M_boot_95 : decode jc_M_boot 95 = .ok (.invokevirtual 143, 3) := by decide +kernel
theorem jd_M_boot_98 : decode jc_M_boot 98 = .ok (.aload_n 0, 1) := by decide +kernel
theorem jd_M_boot_99 : decode jc_M_boot 99 = .ok (.getfield 106, 3) := by decide +kernel
theorem jd_M_boot_102 : decode jc_M_boot 102 = .ok (.ireturn, 1) := by decide +kernel
theorem jd_M_settle_0 : decode jc_M_settle 0 = .ok (.aload_n 0, 1) := by decide +kernel
theorem jd_M_settle_1 : decode jc_M_settle 1 = .ok (.iconst 0, 1) := by decide +kernel
theorem jd_M_settle_2 : decode jc_M_settle 2 = .ok (.putfield 72, 3) := by decide +kernel
theorem jd_M_settle_5 : decode jc_M_settle 5 = .ok (.aload_n 0, 1) := by decide +kernel
theorem jd_M_settle_6 : decode jc_M_settle 6 = .ok (.getfield 84, 3) := by decide +kernel
theorem jd_M_settle_9 : decode jc_M_settle 9 = .ok (.ifCond .eq 9, 3) := by decide +kernel
theorem jd_M_settle_12 : decode jc_M_settle 12 = .ok (.aload_n 0, 1) := by decide +kernel
theorem jd_M_settle_13 : decode jc_M_settle 13 = .ok (.iconst 1, 1) := by decide +kernel
theorem jd_M_settle_14 : decode jc_M_settle 14 = .ok (.invokevirtual 80, 3) := by decide +kernel
theorem jd_M_settle_17 : decode jc_M_settle 17 = .ok (.ireturn, 1) := by decide +kernel
theorem jd_M_settle_18 : decode jc_M_settle 18 = .ok (.iconst 0, 1) := by decide +kernel
theorem jd_M_settle_19 : decode jc_M_settle 19 = .ok (.istore_n 1, 1) := by decide +kernel
theorem jd_M_settle_20 : decode jc_M_settle 20 = .ok (.iconst 1, 1) := by decide +kernel
theorem jd_M_settle_21 : decode jc_M_settle 21 = .ok (.istore_n 2, 1) := by decide +kernel
theorem jd_M_settle_22 : decode jc_M_settle 22 = .ok (.iload_n 2, 1) := by decide +kernel
theorem jd_M_settle_23 : decode jc_M_settle 23 = .ok (.ifCond .eq 123, 3) := by decide +kernel
theorem jd_M_settle_26 : decode jc_M_settle 26 = .ok (.aload_n 0, 1) := by decide +kernel
theorem jd_M_settle_27 : decode jc_M_settle 27 = .ok (.getfield 106, 3) := by decide +kernel
theorem jd_M_settle_30 : decode jc_M_settle 30 = .ok (.ifCond .le 116, 3) := by decide +kernel
theorem jd_M_settle_33 : decode jc_M_settle 33 = .ok (.aload_n 0, 1) := by decide +kernel
theorem jd_M_settle_34 : decode jc_M_settle 34 = .ok (.invokevirtual 132, 3) := by decide +kernel
theorem jd_M_settle_37 : decode jc_M_settle 37 = .ok (.istore_n 3, 1) := by decide +kernel
theorem jd_M_settle_38 : decode jc_M_settle 38 = .ok (.iload_n 3, 1) := by decide +kernel
theorem jd_M_settle_39 : decode jc_M_settle 39 = .ok (.iconst 1, 1) := by decide +kernel
theorem jd_M_settle_40 : decode jc_M_settle 40 = .ok (.if_icmp .eq 19, 3) := by decide +kernel
theorem jd_M_settle_43 : decode jc_M_settle 43 = .ok (.aload_n 0, 1) := by decide +kernel
theorem jd_M_settle_44 : decode jc_M_settle 44 = .ok (.aload_n 0, 1) := by decide +kernel
theorem jd_M_settle_45 : decode jc_M_settle 45 = .ok (.getfield 60, 3) := by decide +kernel
theorem jd_M_settle_48 : decode jc_M_settle 48 = .ok (.iconst 0, 1) := by decide +kernel
theorem jd_M_settle_49 : decode jc_M_settle 49 = .ok (.iaload, 1) := by decide +kernel
theorem jd_M_settle_50 : decode jc_M_settle 50 = .ok (.aload_n 0, 1) := by decide +kernel
theorem jd_M_settle_51 : decode jc_M_settle 51 = .ok (.getfield 63, 3) := by decide +kernel
theorem jd_M_settle_54 : decode jc_M_settle 54 = .ok (.iconst 0, 1) := by decide +kernel
theorem jd_M_settle_55 : decode jc_M_settle 55 = .ok (.iaload, 1) := by decide +kernel
theorem jd_M_settle_56 : decode jc_M_settle 56 = .ok (.invokevirtual 155, 3) := by decide +kernel
theorem jd_M_settle_59 : decode jc_M_settle 59 = .ok (.iload_n 3, 1) := by decide +kernel
theorem jd_M_settle_60 : decode jc_M_settle 60 = .ok (.ifCond .eq 8, 3) := by decide +kernel
theorem jd_M_settle_63 : decode jc_M_settle 63 = .ok (.iload_n 3, 1) := by decide +kernel
theorem jd_M_settle_64 : decode jc_M_settle 64 = .ok (.iconst 3, 1) := by decide +kernel
theorem jd_M_settle_65 : decode jc_M_settle 65 = .ok (.if_icmp .ne 7, 3) := by decide +kernel
theorem jd_M_settle_68 : decode jc_M_settle 68 = .ok (.iconst 1, 1) := by decide +kernel
theorem jd_M_settle_69 : decode jc_M_settle 69 = .ok (.goto 4, 3) := by decide +kernel
theorem jd_M_settle_72 : decode jc_M_settle 72 = .ok (.iconst 0, 1) := by decide +kernel
theorem jd_M_settle_73 : decode jc_M_settle 73 = .ok (.istore_n 2, 1) := by decide +kernel
theorem jd_M_settle_74 : decode jc_M_settle 74 = .ok (.iload_n 2, 1) := by decide +kernel
theorem jd_M_settle_75 : decode jc_M_settle 75 = .ok (.ifCond .ne 5, 3) := by decide +kernel
theorem jd_M_settle_78 : decode jc_M_settle 78 = .ok (.iload_n 1, 1) := by decide +kernel
theorem jd_M_settle_79 : decode jc_M_settle 79 = .ok (.ireturn, 1) := by decide +kernel
theorem jd_M_settle_80 : decode jc_M_settle 80 = .ok (.iinc 1 1, 3) := by decide +kernel
theorem jd_M_settle_83 : decode jc_M_settle 83 = .ok (.aload_n 0, 1) := by decide +kernel
theorem jd_M_settle_84 : decode jc_M_settle 84 = .ok (.dup, 1) := by decide +kernel
theorem jd_M_settle_85 : decode jc_M_settle 85 = .ok (.getfield 106, 3) := by decide +kernel
theorem jd_M_settle_88 : decode jc_M_settle 88 = .ok (.iconst 1, 1) := by decide +kernel
theorem jd_M_settle_89 : decode jc_M_settle 89 = .ok (.isub, 1) := by decide +kernel
theorem jd_M_settle_90 : decode jc_M_settle 90 = .ok (.putfield 106, 3) := by decide +kernel
theorem jd_M_settle_93 : decode jc_M_settle 93 = .ok (.iconst 0, 1) := by decide +kernel
theorem jd_M_settle_94 : decode jc_M_settle 94 = .ok (.istore 4, 2) := by decide +kernel
theorem jd_M_settle_96 : decode jc_M_settle 96 = .ok (.iload 4, 2) := by decide +kernel
theorem jd_M_settle_98 : decode jc_M_settle 98 = .ok (.aload_n 0, 1) := by decide +kernel
theorem jd_M_settle_99 : decode jc_M_settle 99 = .ok (.getfield 106, 3) := by decide +kernel
theorem jd_M_settle_102 : decode jc_M_settle 102 = .ok (.if_icmp .ge 41, 3) := by decide +kernel
theorem jd_M_settle_105 : decode jc_M_settle 105 = .ok (.aload_n 0, 1) := by decide +kernel
theorem jd_M_settle_106 : decode jc_M_settle 106 = .ok (.getfield 60, 3) := by decide +kernel
theorem jd_M_settle_109 : decode jc_M_settle 109 = .ok (.iload 4, 2) := by decide +kernel
theorem jd_M_settle_111 : decode jc_M_settle 111 = .ok (.aload_n 0, 1) := by decide +kernel
theorem jd_M_settle_112 : decode jc_M_settle 112 = .ok (.getfield 60, 3) := by decide +kernel
theorem jd_M_settle_115 : decode jc_M_settle 115 = .ok (.iload 4, 2) := by decide +kernel
theorem jd_M_settle_117 : decode jc_M_settle 117 = .ok (.iconst 1, 1) := by decide +kernel
theorem jd_M_settle_118 : decode jc_M_settle 118 = .ok (.iadd, 1) := by decide +kernel
theorem jd_M_settle_119 : decode jc_M_settle 119 = .ok (.iaload, 1) := by decide +kernel
theorem jd_M_settle_120 : decode jc_M_settle 120 = .ok (.iastore, 1) := by decide +kernel
theorem jd_M_settle_121 : decode jc_M_settle 121 = .ok (.aload_n 0, 1) := by decide +kernel
theorem jd_M_settle_122 : decode jc_M_settle 122 = .ok (.getfield 63, 3) := by decide +kernel
theorem jd_M_settle_125 : decode jc_M_settle 125 = .ok (.iload 4, 2) := by decide +kernel
theorem jd_M_settle_127 : decode jc_M_settle 127 = .ok (.aload_n 0, 1) := by decide +kernel
theorem jd_M_settle_128 : decode jc_M_settle 128 = .ok (.getfield 63, 3) := by decide +kernel
theorem jd_M_settle_131 : decode jc_M_settle 131 = .ok (.iload 4, 2) := by decide +kernel
theorem jd_M_settle_133 : decode jc_M_settle 133 = .ok (.iconst 1, 1) := by decide +kernel
theorem jd_M_settle_134 : decode jc_M_settle 134 = .ok (.iadd, 1) := by decide +kernel
theorem jd_M_settle_135 : decode jc_M_settle 135 = .ok (.iaload, 1) := by decide +kernel
theorem jd_M_settle_136 : decode jc_M_settle 136 = .ok (.iastore, 1) := by decide +kernel
theorem jd_M_settle_137 : decode jc_M_settle 137 = .ok (.iinc 4 1, 3) := by decide +kernel
theorem jd_M_settle_140 : decode jc_M_settle 140 = .ok (.goto (-44), 3) := by decide +kernel
theorem jd_M_settle_143 : decode jc_M_settle 143 = .ok (.goto (-121), 3) := by decide +kernel
theorem jd_M_settle_146 : decode jc_M_settle 146 = .ok (.iload_n 1, 1) := by decide +kernel
theorem jd_M_settle_147 : decode jc_M_settle 147 = .ok (.ireturn, 1) := by decide +kernel
theorem jd_M_reversalCame_0 : decode jc_M_reversalCame 0 = .ok (.aload_n 0, 1) := by decide +kernel
theorem jd_M_reversalCame_1 : decode jc_M_reversalCame 1 = .ok (.getfield 57, 3) := by decide +kernel
theorem jd_M_reversalCame_4 : decode jc_M_reversalCame 4 = .ok (.iload_n 1, 1) := by decide +kernel
theorem jd_M_reversalCame_5 : decode jc_M_reversalCame 5 = .ok (.baload, 1) := by decide +kernel
theorem jd_M_reversalCame_6 : decode jc_M_reversalCame 6 = .ok (.ifCond .ne 28, 3) := by decide +kernel
theorem jd_M_reversalCame_9 : decode jc_M_reversalCame 9 = .ok (.aload_n 0, 1) := by decide +kernel
theorem jd_M_reversalCame_10 : decode jc_M_reversalCame 10 = .ok (.getfield 54, 3) := by decide +kernel
theorem jd_M_reversalCame_13 : decode jc_M_reversalCame 13 = .ok (.iload_n 1, 1) := by decide +kernel
theorem jd_M_reversalCame_14 : decode jc_M_reversalCame 14 = .ok (.iaload, 1) := by decide +kernel
theorem jd_M_reversalCame_15 : decode jc_M_reversalCame 15 = .ok (.iconst 1, 1) := by decide +kernel
theorem jd_M_reversalCame_16 : decode jc_M_reversalCame 16 = .ok (.if_icmp .ne 18, 3) := by decide +kernel
theorem jd_M_reversalCame_19 : decode jc_M_reversalCame 19 = .ok (.aload_n 0, 1) := by decide +kernel
theorem jd_M_reversalCame_20 : decode jc_M_reversalCame 20 = .ok (.getfield 20, 3) := by decide +kernel
theorem jd_M_reversalCame_23 : decode jc_M_reversalCame 23 = .ok (.aload_n 0, 1) := by decide +kernel
theorem jd_M_reversalCame_24 : decode jc_M_reversalCame 24 = .ok (.getfield 45, 3) := by decide +kernel
theorem jd_M_reversalCame_27 : decode jc_M_reversalCame 27 = .ok (.iload_n 1, 1) := by decide +kernel
theorem jd_M_reversalCame_28 : decode jc_M_reversalCame 28 = .ok (.iaload, 1) := by decide +kernel
theorem jd_M_reversalCame_29 : decode jc_M_reversalCame 29 = .ok (.dup2, 1) := by decide +kernel
theorem jd_M_reversalCame_30 : decode jc_M_reversalCame 30 = .ok (.iaload, 1) := by decide +kernel
theorem jd_M_reversalCame_31 : decode jc_M_reversalCame 31 = .ok (.iload_n 2, 1) := by decide +kernel
theorem jd_M_reversalCame_32 : decode jc_M_reversalCame 32 = .ok (.iadd, 1) := by decide +kernel
theorem jd_M_reversalCame_33 : decode jc_M_reversalCame 33 = .ok (.iastore, 1) := by decide +kernel
theorem jd_M_reversalCame_34 : decode jc_M_reversalCame 34 = .ok (.aload_n 0, 1) := by decide +kernel
theorem jd_M_reversalCame_35 : decode jc_M_reversalCame 35 = .ok (.getfield 57, 3) := by decide +kernel
theorem jd_M_reversalCame_38 : decode jc_M_reversalCame 38 = .ok (.iload_n 1, 1) := by decide +kernel
theorem jd_M_reversalCame_39 : decode jc_M_reversalCame 39 = .ok (.iconst 1, 1) := by decide +kernel
theorem jd_M_reversalCame_40 : decode jc_M_reversalCame 40 = .ok (.bastore, 1) := by decide +kernel
theorem jd_M_reversalCame_41 : decode jc_M_reversalCame 41 = .ok (.return_, 1) := by decide +kernel
theorem jd_M_balance_0 : decode jc_M_balance 0 = .ok (.aload_n 0, 1) := by decide +kernel
theorem jd_M_balance_1 : decode jc_M_balance 1 = .ok (.iconst 0, 1) := by decide +kernel
theorem jd_M_balance_2 : decode jc_M_balance 2 = .ok (.putfield 72, 3) := by decide +kernel
theorem jd_M_balance_5 : decode jc_M_balance 5 = .ok (.iload_n 1, 1) := by decide +kernel
theorem jd_M_balance_6 : decode jc_M_balance 6 = .ok (.iconst 0, 1) := by decide +kernel
theorem jd_M_balance_7 : decode jc_M_balance 7 = .ok (.bipush 7, 2) := by decide +kernel
theorem jd_M_balance_9 : decode jc_M_balance 9 = .ok (.invokestatic 75, 3) := by decide +kernel
theorem jd_M_balance_12 : decode jc_M_balance 12 = .ok (.ifCond .eq 21, 3) := by decide +kernel
theorem jd_M_balance_15 : decode jc_M_balance 15 = .ok (.aload_n 0, 1) := by decide +kernel
theorem jd_M_balance_16 : decode jc_M_balance 16 = .ok (.getfield 7, 3) := by decide +kernel
theorem jd_M_balance_19 : decode jc_M_balance 19 = .ok (.iload_n 1, 1) := by decide +kernel
theorem jd_M_balance_20 : decode jc_M_balance 20 = .ok (.baload, 1) := by decide +kernel
theorem jd_M_balance_21 : decode jc_M_balance 21 = .ok (.ifCond .eq 12, 3) := by decide +kernel
theorem jd_M_balance_24 : decode jc_M_balance 24 = .ok (.aload_n 0, 1) := by decide +kernel
theorem jd_M_balance_25 : decode jc_M_balance 25 = .ok (.getfield 20, 3) := by decide +kernel
theorem jd_M_balance_28 : decode jc_M_balance 28 = .ok (.iload_n 1, 1) := by decide +kernel
theorem jd_M_balance_29 : decode jc_M_balance 29 = .ok (.iaload, 1) := by decide +kernel
theorem jd_M_balance_30 : decode jc_M_balance 30 = .ok (.goto 8, 3) := by decide +kernel
theorem jd_M_balance_33 : decode jc_M_balance 33 = .ok (.aload_n 0, 1) := by decide +kernel
theorem jd_M_balance_34 : decode jc_M_balance 34 = .ok (.iconst 1, 1) := by decide +kernel
theorem jd_M_balance_35 : decode jc_M_balance 35 = .ok (.invokevirtual 80, 3) := by decide +kernel
theorem jd_M_balance_38 : decode jc_M_balance 38 = .ok (.ireturn, 1) := by decide +kernel
theorem jd_M_trace_0 : decode jc_M_trace 0 = .ok (.aload_n 0, 1) := by decide +kernel
theorem jd_M_trace_1 : decode jc_M_trace 1 = .ok (.iconst 0, 1) := by decide +kernel
theorem jd_M_trace_2 : decode jc_M_trace 2 = .ok (.putfield 72, 3) := by decide +kernel
theorem jd_M_trace_5 : decode jc_M_trace 5 = .ok (.iload_n 1, 1) := by decide +kernel
theorem jd_M_trace_6 : decode jc_M_trace 6 = .ok (.iconst 1, 1) := by decide +kernel
theorem jd_M_trace_7 : decode jc_M_trace 7 = .ok (.aload_n 0, 1) := by decide +kernel
theorem jd_M_trace_8 : decode jc_M_trace 8 = .ok (.getfield 149, 3) := by decide +kernel
theorem jd_M_trace_11 : decode jc_M_trace 11 = .ok (.invokestatic 75, 3) := by decide +kernel
theorem jd_M_trace_14 : decode jc_M_trace 14 = .ok (.ifCond .ne 9, 3) := by decide +kernel
theorem jd_M_trace_17 : decode jc_M_trace 17 = .ok (.aload_n 0, 1) := by decide +kernel
theorem jd_M_trace_18 : decode jc_M_trace 18 = .ok (.iconst 1, 1) := by decide +kernel
theorem jd_M_trace_19 : decode jc_M_trace 19 = .ok (.invokevirtual 80, 3) := by decide +kernel
theorem jd_M_trace_22 : decode jc_M_trace 22 = .ok (.ireturn, 1) := by decide +kernel
theorem jd_M_trace_23 : decode jc_M_trace 23 = .ok (.iload_n 2, 1) := by decide +kernel
theorem jd_M_trace_24 : decode jc_M_trace 24 = .ok (.tableswitch 60 0 3 #[32, 39, 46, 53], 32) := by decide +kernel
theorem jd_M_trace_56 : decode jc_M_trace 56 = .ok (.aload_n 0, 1) := by decide +kernel
theorem jd_M_trace_57 : decode jc_M_trace 57 = .ok (.getfield 42, 3) := by decide +kernel
theorem jd_M_trace_60 : decode jc_M_trace 60 = .ok (.iload_n 1, 1) := by decide +kernel
theorem jd_M_trace_61 : decode jc_M_trace 61 = .ok (.iaload, 1) := by decide +kernel
theorem jd_M_trace_62 : decode jc_M_trace 62 = .ok (.ireturn, 1) := by decide +kernel
theorem jd_M_trace_63 : decode jc_M_trace 63 = .ok (.aload_n 0, 1) := by decide +kernel
theorem jd_M_trace_64 : decode jc_M_trace 64 = .ok (.getfield 45, 3) := by decide +kernel
theorem jd_M_trace_67 : decode jc_M_trace 67 = .ok (.iload_n 1, 1) := by decide +kernel
theorem jd_M_trace_68 : decode jc_M_trace 68 = .ok (.iaload, 1) := by decide +kernel
theorem jd_M_trace_69 : decode jc_M_trace 69 = .ok (.ireturn, 1) := by decide +kernel
theorem jd_M_trace_70 : decode jc_M_trace 70 = .ok (.aload_n 0, 1) := by decide +kernel
theorem jd_M_trace_71 : decode jc_M_trace 71 = .ok (.getfield 48, 3) := by decide +kernel
theorem jd_M_trace_74 : decode jc_M_trace 74 = .ok (.iload_n 1, 1) := by decide +kernel
theorem jd_M_trace_75 : decode jc_M_trace 75 = .ok (.iaload, 1) := by decide +kernel
theorem jd_M_trace_76 : decode jc_M_trace 76 = .ok (.ireturn, 1) := by decide +kernel
theorem jd_M_trace_77 : decode jc_M_trace 77 = .ok (.aload_n 0, 1) := by decide +kernel
theorem jd_M_trace_78 : decode jc_M_trace 78 = .ok (.getfield 51, 3) := by decide +kernel
theorem jd_M_trace_81 : decode jc_M_trace 81 = .ok (.iload_n 1, 1) := by decide +kernel
theorem jd_M_trace_82 : decode jc_M_trace 82 = .ok (.iaload, 1) := by decide +kernel
theorem jd_M_trace_83 : decode jc_M_trace 83 = .ok (.ireturn, 1) := by decide +kernel
theorem jd_M_trace_84 : decode jc_M_trace 84 = .ok (.aload_n 0, 1) := by decide +kernel
theorem jd_M_trace_85 : decode jc_M_trace 85 = .ok (.iconst 2, 1) := by decide +kernel
theorem jd_M_trace_86 : decode jc_M_trace 86 = .ok (.invokevirtual 80, 3) := by decide +kernel
theorem jd_M_trace_89 : decode jc_M_trace 89 = .ok (.ireturn, 1) := by decide +kernel
theorem jd_M_reversal_0 : decode jc_M_reversal 0 = .ok (.aload_n 0, 1) := by decide +kernel
theorem jd_M_reversal_1 : decode jc_M_reversal 1 = .ok (.iconst 0, 1) := by decide +kernel
theorem jd_M_reversal_2 : decode jc_M_reversal 2 = .ok (.putfield 72, 3) := by decide +kernel
theorem jd_M_reversal_5 : decode jc_M_reversal 5 = .ok (.iload_n 1, 1) := by decide +kernel
theorem jd_M_reversal_6 : decode jc_M_reversal 6 = .ok (.ifCond .lt 20, 3) := by decide +kernel
theorem jd_M_reversal_9 : decode jc_M_reversal 9 = .ok (.iload_n 1, 1) := by decide +kernel
theorem jd_M_reversal_10 : decode jc_M_reversal 10 = .ok (.aload_n 0, 1) := by decide +kernel
theorem jd_M_reversal_11 : decode jc_M_reversal 11 = .ok (.getfield 106, 3) := by decide +kernel
theorem jd_M_reversal_14 : decode jc_M_reversal 14 = .ok (.if_icmp .ge 12, 3) := by decide +kernel
theorem jd_M_reversal_17 : decode jc_M_reversal 17 = .ok (.aload_n 0, 1) := by decide +kernel
theorem jd_M_reversal_18 : decode jc_M_reversal 18 = .ok (.getfield 63, 3) := by decide +kernel
theorem jd_M_reversal_21 : decode jc_M_reversal 21 = .ok (.iload_n 1, 1) := by decide +kernel
theorem jd_M_reversal_22 : decode jc_M_reversal 22 = .ok (.iaload, 1) := by decide +kernel
theorem jd_M_reversal_23 : decode jc_M_reversal 23 = .ok (.goto 8, 3) := by decide +kernel
theorem jd_M_reversal_26 : decode jc_M_reversal 26 = .ok (.aload_n 0, 1) := by decide +kernel
theorem jd_M_reversal_27 : decode jc_M_reversal 27 = .ok (.iconst 1, 1) := by decide +kernel
theorem jd_M_reversal_28 : decode jc_M_reversal 28 = .ok (.invokevirtual 80, 3) := by decide +kernel
theorem jd_M_reversal_31 : decode jc_M_reversal 31 = .ok (.ireturn, 1) := by decide +kernel
theorem jd_M_notes_0 : decode jc_M_notes 0 = .ok (.aload_n 0, 1) := by decide +kernel
theorem jd_M_notes_1 : decode jc_M_notes 1 = .ok (.iconst 0, 1) := by decide +kernel
theorem jd_M_notes_2 : decode jc_M_notes 2 = .ok (.putfield 72, 3) := by decide +kernel
theorem jd_M_notes_5 : decode jc_M_notes 5 = .ok (.iload_n 1, 1) := by decide +kernel
theorem jd_M_notes_6 : decode jc_M_notes 6 = .ok (.iconst 0, 1) := by decide +kernel
theorem jd_M_notes_7 : decode jc_M_notes 7 = .ok (.iconst 3, 1) := by decide +kernel
theorem jd_M_notes_8 : decode jc_M_notes 8 = .ok (.invokestatic 75, 3) := by decide +kernel
theorem jd_M_notes_11 : decode jc_M_notes 11 = .ok (.ifCond .eq 12, 3) := by decide +kernel
theorem jd_M_notes_14 : decode jc_M_notes 14 = .ok (.aload_n 0, 1) := by decide +kernel
theorem jd_M_notes_15 : decode jc_M_notes 15 = .ok (.getfield 32, 3) := by decide +kernel
theorem jd_M_notes_18 : decode jc_M_notes 18 = .ok (.iload_n 1, 1) := by decide +kernel
theorem jd_M_notes_19 : decode jc_M_notes 19 = .ok (.iaload, 1) := by decide +kernel
theorem jd_M_notes_20 : decode jc_M_notes 20 = .ok (.goto 8, 3) := by decide +kernel
theorem jd_M_notes_23 : decode jc_M_notes 23 = .ok (.aload_n 0, 1) := by decide +kernel
theorem jd_M_notes_24 : decode jc_M_notes 24 = .ok (.iconst 1, 1) := by decide +kernel
theorem jd_M_notes_25 : decode jc_M_notes 25 = .ok (.invokevirtual 80, 3) := by decide +kernel
theorem jd_M_notes_28 : decode jc_M_notes 28 = .ok (.ireturn, 1) := by decide +kernel
theorem jd_M_difference_0 : decode jc_M_difference 0 = .ok (.aload_n 0, 1) := by decide +kernel
theorem jd_M_difference_1 : decode jc_M_difference 1 = .ok (.iconst 0, 1) := by decide +kernel
theorem jd_M_difference_2 : decode jc_M_difference 2 = .ok (.putfield 72, 3) := by decide +kernel
theorem jd_M_difference_5 : decode jc_M_difference 5 = .ok (.aload_n 0, 1) := by decide +kernel
theorem jd_M_difference_6 : decode jc_M_difference 6 = .ok (.getfield 121, 3) := by decide +kernel
theorem jd_M_difference_9 : decode jc_M_difference 9 = .ok (.ineg, 1) := by decide +kernel
theorem jd_M_difference_10 : decode jc_M_difference 10 = .ok (.istore_n 1, 1) := by decide +kernel
theorem jd_M_difference_11 : decode jc_M_difference 11 = .ok (.iconst 0, 1) := by decide +kernel
theorem jd_M_difference_12 : decode jc_M_difference 12 = .ok (.istore_n 2, 1) := by decide +kernel
theorem jd_M_difference_13 : decode jc_M_difference 13 = .ok (.iload_n 2, 1) := by decide +kernel
theorem jd_M_difference_14 : decode jc_M_difference 14 = .ok (.bipush 8, 2) := by decide +kernel
theorem jd_M_difference_16 : decode jc_M_difference 16 = .ok (.if_icmp .ge 25, 3) := by decide +kernel
theorem jd_M_difference_19 : decode jc_M_difference 19 = .ok (.iload_n 1, 1) := by decide +kernel
theorem jd_M_difference_20 : decode jc_M_difference 20 = .ok (.aload_n 0, 1) := by decide +kernel
theorem jd_M_difference_21 : decode jc_M_difference 21 = .ok (.getfield 17, 3) := by decide +kernel
theorem jd_M_difference_24 : decode jc_M_difference 24 = .ok (.iload_n 2, 1) := by decide +kernel
theorem jd_M_difference_25 : decode jc_M_difference 25 = .ok (.iaload, 1) := by decide +kernel
theorem jd_M_difference_26 : decode jc_M_difference 26 = .ok (.aload_n 0, 1) := by decide +kernel
theorem jd_M_difference_27 : decode jc_M_difference 27 = .ok (.getfield 20, 3) := by decide +kernel
theorem jd_M_difference_30 : decode jc_M_difference 30 = .ok (.iload_n 2, 1) := by decide +kernel
theorem jd_M_difference_31 : decode jc_M_difference 31 = .ok (.iaload, 1) := by decide +kernel
theorem jd_M_difference_32 : decode jc_M_difference 32 = .ok (.isub, 1) := by decide +kernel
theorem jd_M_difference_33 : decode jc_M_difference 33 = .ok (.iadd, 1) := by decide +kernel
theorem jd_M_difference_34 : decode jc_M_difference 34 = .ok (.istore_n 1, 1) := by decide +kernel
theorem jd_M_difference_35 : decode jc_M_difference 35 = .ok (.iinc 2 1, 3) := by decide +kernel
theorem jd_M_difference_38 : decode jc_M_difference 38 = .ok (.goto (-25), 3) := by decide +kernel
theorem jd_M_difference_41 : decode jc_M_difference 41 = .ok (.iload_n 1, 1) := by decide +kernel
theorem jd_M_difference_42 : decode jc_M_difference 42 = .ok (.ireturn, 1) := by decide +kernel
theorem jd_M_count_0 : decode jc_M_count 0 = .ok (.aload_n 0, 1) := by decide +kernel
theorem jd_M_count_1 : decode jc_M_count 1 = .ok (.iconst 0, 1) := by decide +kernel
theorem jd_M_count_2 : decode jc_M_count 2 = .ok (.putfield 72, 3) := by decide +kernel
theorem jd_M_count_5 : decode jc_M_count 5 = .ok (.iconst 0, 1) := by decide +kernel
theorem jd_M_count_6 : decode jc_M_count 6 = .ok (.istore_n 2, 1) := by decide +kernel
theorem jd_M_count_7 : decode jc_M_count 7 = .ok (.iload_n 1, 1) := by decide +kernel
theorem jd_M_count_8 : decode jc_M_count 8 = .ok (.tableswitch 134 0 7 #[48, 53, 58, 63, 76, 81, 101, 106], 48) := by decide +kernel
theorem jd_M_count_56 : decode jc_M_count 56 = .ok (.aload_n 0, 1) := by decide +kernel
theorem jd_M_count_57 : decode jc_M_count 57 = .ok (.getfield 149, 3) := by decide +kernel
theorem jd_M_count_60 : decode jc_M_count 60 = .ok (.ireturn, 1) := by decide +kernel
theorem jd_M_count_61 : decode jc_M_count 61 = .ok (.aload_n 0, 1) := by decide +kernel
theorem jd_M_count_62 : decode jc_M_count 62 = .ok (.getfield 106, 3) := by decide +kernel
theorem jd_M_count_65 : decode jc_M_count 65 = .ok (.ireturn, 1) := by decide +kernel
theorem jd_M_count_66 : decode jc_M_count 66 = .ok (.aload_n 0, 1) := by decide +kernel
theorem jd_M_count_67 : decode jc_M_count 67 = .ok (.getfield 103, 3) := by decide +kernel
theorem jd_M_count_70 : decode jc_M_count 70 = .ok (.ireturn, 1) := by decide +kernel
theorem jd_M_count_71 : decode jc_M_count 71 = .ok (.aload_n 0, 1) := by decide +kernel
theorem jd_M_count_72 : decode jc_M_count 72 = .ok (.getfield 84, 3) := by decide +kernel
theorem jd_M_count_75 : decode jc_M_count 75 = .ok (.ifCond .eq 7, 3) := by decide +kernel
theorem jd_M_count_78 : decode jc_M_count 78 = .ok (.iconst 0, 1) := by decide +kernel
theorem jd_M_count_79 : decode jc_M_count 79 = .ok (.goto 4, 3) := by decide +kernel
theorem jd_M_count_82 : decode jc_M_count 82 = .ok (.iconst 1, 1) := by decide +kernel
theorem jd_M_count_83 : decode jc_M_count 83 = .ok (.ireturn, 1) := by decide +kernel
theorem jd_M_count_84 : decode jc_M_count 84 = .ok (.aload_n 0, 1) := by decide +kernel
theorem jd_M_count_85 : decode jc_M_count 85 = .ok (.getfield 38, 3) := by decide +kernel
theorem jd_M_count_88 : decode jc_M_count 88 = .ok (.ireturn, 1) := by decide +kernel
theorem jd_M_count_89 : decode jc_M_count 89 = .ok (.aload_n 0, 1) := by decide +kernel
theorem jd_M_count_90 : decode jc_M_count 90 = .ok (.getfield 38, 3) := by decide +kernel
theorem jd_M_count_93 : decode jc_M_count 93 = .ok (.ifCond .lt 14, 3) := by decide +kernel
theorem jd_M_count_96 : decode jc_M_count 96 = .ok (.aload_n 0, 1) := by decide +kernel
theorem jd_M_count_97 : decode jc_M_count 97 = .ok (.getfield 88, 3) := by decide +kernel
theorem jd_M_count_100 : decode jc_M_count 100 = .ok (.ifCond .eq 7, 3) := by decide +kernel
theorem jd_M_count_103 : decode jc_M_count 103 = .ok (.iconst 1, 1) := by decide +kernel
theorem jd_M_count_104 : decode jc_M_count 104 = .ok (.goto 4, 3) := by decide +kernel
theorem jd_M_count_107 : decode jc_M_count 107 = .ok (.iconst 0, 1) := by decide +kernel
theorem jd_M_count_108 : decode jc_M_count 108 = .ok (.ireturn, 1) := by decide +kernel
theorem jd_M_count_109 : decode jc_M_count 109 = .ok (.aload_n 0, 1) := by decide +kernel
theorem jd_M_count_110 : decode jc_M_count 110 = .ok (.getfield 121, 3) := by decide +kernel
theorem jd_M_count_113 : decode jc_M_count 113 = .ok (.ireturn, 1) := by decide +kernel
theorem jd_M_count_114 : decode jc_M_count 114 = .ok (.iconst 0, 1) := by decide +kernel
theorem jd_M_count_115 : decode jc_M_count 115 = .ok (.istore_n 3, 1) := by decide +kernel
theorem jd_M_count_116 : decode jc_M_count 116 = .ok (.iload_n 3, 1) := by decide +kernel
theorem jd_M_count_117 : decode jc_M_count 117 = .ok (.bipush 8, 2) := by decide +kernel
theorem jd_M_count_119 : decode jc_M_count 119 = .ok (.if_icmp .ge 21, 3) := by decide +kernel
theorem jd_M_count_122 : decode jc_M_count 122 = .ok (.aload_n 0, 1) := by decide +kernel
theorem jd_M_count_123 : decode jc_M_count 123 = .ok (.getfield 26, 3) := by decide +kernel
theorem jd_M_count_126 : decode jc_M_count 126 = .ok (.iload_n 3, 1) := by decide +kernel
theorem jd_M_count_127 : decode jc_M_count 127 = .ok (.baload, 1) := by decide +kernel
theorem jd_M_count_128 : decode jc_M_count 128 = .ok (.ifCond .eq 6, 3) := by decide +kernel
theorem jd_M_count_131 : decode jc_M_count 131 = .ok (.iinc 2 1, 3) := by decide +kernel
theorem jd_M_count_134 : decode jc_M_count 134 = .ok (.iinc 3 1, 3) := by decide +kernel
theorem jd_M_count_137 : decode jc_M_count 137 = .ok (.goto (-21), 3) := by decide +kernel
theorem jd_M_count_140 : decode jc_M_count 140 = .ok (.iload_n 2, 1) := by decide +kernel
theorem jd_M_count_141 : decode jc_M_count 141 = .ok (.ireturn, 1) := by decide +kernel
theorem jd_M_count_142 : decode jc_M_count 142 = .ok (.aload_n 0, 1) := by decide +kernel
theorem jd_M_count_143 : decode jc_M_count 143 = .ok (.iconst 1, 1) := by decide +kernel
theorem jd_M_count_144 : decode jc_M_count 144 = .ok (.invokevirtual 80, 3) := by decide +kernel
theorem jd_M_count_147 : decode jc_M_count 147 = .ok (.ireturn, 1) := by decide +kernel
theorem jd_L_law_0 : decode jc_L_law 0 = .ok (.new 8, 3) := by decide +kernel
theorem jd_L_law_3 : decode jc_L_law 3 = .ok (.dup, 1) := by decide +kernel
theorem jd_L_law_4 : decode jc_L_law 4 = .ok (.invokespecial 74, 3) := by decide +kernel
theorem jd_L_law_7 : decode jc_L_law 7 = .ok (.astore_n 1, 1) := by decide +kernel
theorem jd_L_law_8 : decode jc_L_law 8 = .ok (.new 75, 3) := by decide +kernel
theorem jd_L_law_11 : decode jc_L_law 11 = .ok (.dup, 1) := by decide +kernel
theorem jd_L_law_12 : decode jc_L_law 12 = .ok (.invokespecial 77, 3) := by decide +kernel
theorem jd_L_law_15 : decode jc_L_law 15 = .ok (.astore_n 2, 1) := by decide +kernel
theorem jd_L_law_16 : decode jc_L_law 16 = .ok (.iconst 1, 1) := by decide +kernel
theorem jd_L_law_17 : decode jc_L_law 17 = .ok (.newarray .long, 2) := by decide +kernel
theorem jd_L_law_19 : decode jc_L_law 19 = .ok (.astore_n 3, 1) := by decide +kernel
theorem jd_L_law_20 : decode jc_L_law 20 = .ok (.iconst 0, 1) := by decide +kernel
theorem jd_L_law_21 : decode jc_L_law 21 = .ok (.istore 4, 2) := by decide +kernel
theorem jd_L_law_23 : decode jc_L_law 23 = .ok (.iload 4, 2) := by decide +kernel
theorem jd_L_law_25 : decode jc_L_law 25 = .ok (.aload_n 0, 1) := by decide +kernel
theorem jd_L_law_26 : decode jc_L_law 26 = .ok (.arraylength, 1) := by decide +kernel
theorem jd_L_law_27 : decode jc_L_law 27 = .ok (.iconst 4, 1) := by decide +kernel
theorem jd_L_law_28 : decode jc_L_law 28 = .ok (.isub, 1) := by decide +kernel
theorem jd_L_law_29 : decode jc_L_law 29 = .ok (.if_icmp .gt 1102, 3) := by decide +kernel
theorem jd_L_law_32 : decode jc_L_law 32 = .ok (.aload_n 0, 1) := by decide +kernel
theorem jd_L_law_33 : decode jc_L_law 33 = .ok (.iload 4, 2) := by decide +kernel
theorem jd_L_law_35 : decode jc_L_law 35 = .ok (.iaload, 1) := by decide +kernel
theorem jd_L_law_36 : decode jc_L_law 36 = .ok (.bipush 31, 2) := by decide +kernel
theorem jd_L_law_38 : decode jc_L_law 38 = .ok (.iand, 1) := by decide +kernel
theorem jd_L_law_39 : decode jc_L_law 39 = .ok (.tableswitch 1086 0 17 #[85, 165, 245, 301, 357, 401, 457, 525, 581, 637, 693, 737, 781, 837, 905, 961, 1017, 1030], 85) := by decide +kernel
theorem jd_L_law_124 : decode jc_L_law 124 = .ok (.aload_n 1, 1) := by decide +kernel
theorem jd_L_law_125 : decode jc_L_law 125 = .ok (.aload_n 0, 1) := by decide +kernel
theorem jd_L_law_126 : decode jc_L_law 126 = .ok (.iload 4, 2) := by decide +kernel
theorem jd_L_law_128 : decode jc_L_law 128 = .ok (.iconst 1, 1) := by decide +kernel
theorem jd_L_law_129 : decode jc_L_law 129 = .ok (.iadd, 1) := by decide +kernel
theorem jd_L_law_130 : decode jc_L_law 130 = .ok (.iaload, 1) := by decide +kernel
theorem jd_L_law_131 : decode jc_L_law 131 = .ok (.aload_n 0, 1) := by decide +kernel
theorem jd_L_law_132 : decode jc_L_law 132 = .ok (.iload 4, 2) := by decide +kernel
theorem jd_L_law_134 : decode jc_L_law 134 = .ok (.iconst 2, 1) := by decide +kernel
theorem jd_L_law_135 : decode jc_L_law 135 = .ok (.iadd, 1) := by decide +kernel
theorem jd_L_law_136 : decode jc_L_law 136 = .ok (.iaload, 1) := by decide +kernel
theorem jd_L_law_137 : decode jc_L_law 137 = .ok (.aload_n 0, 1) := by decide +kernel
theorem jd_L_law_138 : decode jc_L_law 138 = .ok (.iload 4, 2) := by decide +kernel
theorem jd_L_law_140 : decode jc_L_law 140 = .ok (.iconst 3, 1) := by decide +kernel
theorem jd_L_law_141 : decode jc_L_law 141 = .ok (.iadd, 1) := by decide +kernel
theorem jd_L_law_142 : decode jc_L_law 142 = .ok (.iaload, 1) := by decide +kernel
theorem jd_L_law_143 : decode jc_L_law 143 = .ok (.aload_n 3, 1) := by decide +kernel
theorem jd_L_law_144 : decode jc_L_law 144 = .ok (.invokestatic 78, 3) := by decide +kernel
theorem jd_L_law_147 : decode jc_L_law 147 = .ok (.istore 5, 2) := by decide +kernel
theorem jd_L_law_149 : decode jc_L_law 149 = .ok (.aload_n 2, 1) := by decide +kernel
theorem jd_L_law_150 : decode jc_L_law 150 = .ok (.aload_n 0, 1) := by decide +kernel
theorem jd_L_law_151 : decode jc_L_law 151 = .ok (.iload 4, 2) := by decide +kernel
theorem jd_L_law_153 : decode jc_L_law 153 = .ok (.iconst 1, 1) := by decide +kernel
theorem jd_L_law_154 : decode jc_L_law 154 = .ok (.iadd, 1) := by decide +kernel
theorem jd_L_law_155 : decode jc_L_law 155 = .ok (.iaload, 1) := by decide +kernel
theorem jd_L_law_156 : decode jc_L_law 156 = .ok (.aload_n 0, 1) := by decide +kernel
theorem jd_L_law_157 : decode jc_L_law 157 = .ok (.iload 4, 2) := by decide +kernel
theorem jd_L_law_159 : decode jc_L_law 159 = .ok (.iconst 2, 1) := by decide +kernel
theorem jd_L_law_160 : decode jc_L_law 160 = .ok (.iadd, 1) := by decide +kernel
theorem jd_L_law_161 : decode jc_L_law 161 = .ok (.iaload, 1) := by decide +kernel
theorem jd_L_law_162 : decode jc_L_law 162 = .ok (.aload_n 0, 1) := by decide +kernel
theorem jd_L_law_163 : decode jc_L_law 163 = .ok (.iload 4, 2) := by decide +kernel
theorem jd_L_law_165 : decode jc_L_law 165 = .ok (.iconst 3, 1) := by decide +kernel
theorem jd_L_law_166 : decode jc_L_law 166 = .ok (.iadd, 1) := by decide +kernel
theorem jd_L_law_167 : decode jc_L_law 167 = .ok (.iaload, 1) := by decide +kernel
theorem jd_L_law_168 : decode jc_L_law 168 = .ok (.invokevirtual 83, 3) := by decide +kernel
theorem jd_L_law_171 : decode jc_L_law 171 = .ok (.istore 6, 2) := by decide +kernel
theorem jd_L_law_173 : decode jc_L_law 173 = .ok (.aload_n 2, 1) := by decide +kernel
theorem jd_L_law_174 : decode jc_L_law 174 = .ok (.invokevirtual 84, 3) := by decide +kernel
theorem jd_L_law_177 : decode jc_L_law 177 = .ok (.iload 5, 2) := by decide +kernel
theorem jd_L_law_179 : decode jc_L_law 179 = .ok (.if_icmp .eq 5, 3) := by decide +kernel
theorem jd_L_law_182 : decode jc_L_law 182 = .ok (.iconst 0, 1) := by decide +kernel
theorem jd_L_law_183 : decode jc_L_law 183 = .ok (.ireturn, 1) := by decide +kernel
theorem jd_L_law_184 : decode jc_L_law 184 = .ok (.iload 5, 2) := by decide +kernel
theorem jd_L_law_186 : decode jc_L_law 186 = .ok (.ifCond .ne 15, 3) := by decide +kernel
theorem jd_L_law_189 : decode jc_L_law 189 = .ok (.aload_n 3, 1) := by decide +kernel
theorem jd_L_law_190 : decode jc_L_law 190 = .ok (.iconst 0, 1) := by decide +kernel
theorem jd_L_law_191 : decode jc_L_law 191 = .ok (.laload, 1) := by decide +kernel
theorem jd_L_law_192 : decode jc_L_law 192 = .ok (.iload 6, 2) := by decide +kernel
theorem jd_L_law_194 : decode jc_L_law 194 = .ok (.i2l, 1) := by decide +kernel
theorem jd_L_law_195 : decode jc_L_law 195 = .ok (.lcmp, 1) := by decide +kernel
theorem jd_L_law_196 : decode jc_L_law 196 = .ok (.ifCond .eq 5, 3) := by decide +kernel
theorem jd_L_law_199 : decode jc_L_law 199 = .ok (.iconst 0, 1) := by decide +kernel
theorem jd_L_law_200 : decode jc_L_law 200 = .ok (.ireturn, 1) := by decide +kernel
theorem jd_L_law_201 : decode jc_L_law 201 = .ok (.goto 924, 3) := by decide +kernel
theorem jd_L_law_204 : decode jc_L_law 204 = .ok (.aload_n 1, 1) := by decide +kernel
theorem jd_L_law_205 : decode jc_L_law 205 = .ok (.aload_n 0, 1) := by decide +kernel
theorem jd_L_law_206 : decode jc_L_law 206 = .ok (.iload 4, 2) := by decide +kernel
theorem jd_L_law_208 : decode jc_L_law 208 = .ok (.iconst 1, 1) := by decide +kernel
theorem jd_L_law_209 : decode jc_L_law 209 = .ok (.iadd, 1) := by decide +kernel
theorem jd_L_law_210 : decode jc_L_law 210 = .ok (.iaload, 1) := by decide +kernel
theorem jd_L_law_211 : decode jc_L_law 211 = .ok (.aload_n 0, 1) := by decide +kernel
theorem jd_L_law_212 : decode jc_L_law 212 = .ok (.iload 4, 2) := by decide +kernel
theorem jd_L_law_214 : decode jc_L_law 214 = .ok (.iconst 2, 1) := by decide +kernel
theorem jd_L_law_215 : decode jc_L_law 215 = .ok (.iadd, 1) := by decide +kernel
theorem jd_L_law_216 : decode jc_L_law 216 = .ok (.iaload, 1) := by decide +kernel
theorem jd_L_law_217 : decode jc_L_law 217 = .ok (.aload_n 0, 1) := by decide +kernel
theorem jd_L_law_218 : decode jc_L_law 218 = .ok (.iload 4, 2) := by decide +kernel
theorem jd_L_law_220 : decode jc_L_law 220 = .ok (.iconst 3, 1) := by decide +kernel
theorem jd_L_law_221 : decode jc_L_law 221 = .ok (.iadd, 1) := by decide +kernel
theorem jd_L_law_222 : decode jc_L_law 222 = .ok (.iaload, 1) := by decide +kernel
theorem jd_L_law_223 : decode jc_L_law 223 = .ok (.aload_n 3, 1) := by decide +kernel
theorem jd_L_law_224 : decode jc_L_law 224 = .ok (.invokestatic 87, 3) := by decide +kernel
theorem jd_L_law_227 : decode jc_L_law 227 = .ok (.istore 5, 2) := by decide +kernel
theorem jd_L_law_229 : decode jc_L_law 229 = .ok (.aload_n 2, 1) := by decide +kernel
theorem jd_L_law_230 : decode jc_L_law 230 = .ok (.aload_n 0, 1) := by decide +kernel
theorem jd_L_law_231 : decode jc_L_law 231 = .ok (.iload 4, 2) := by decide +kernel
theorem jd_L_law_233 : decode jc_L_law 233 = .ok (.iconst 1, 1) := by decide +kernel
theorem jd_L_law_234 : decode jc_L_law 234 = .ok (.iadd, 1) := by decide +kernel
theorem jd_L_law_235 : decode jc_L_law 235 = .ok (.iaload, 1) := by decide +kernel
theorem jd_L_law_236 : decode jc_L_law 236 = .ok (.aload_n 0, 1) := by decide +kernel
theorem jd_L_law_237 : decode jc_L_law 237 = .ok (.iload 4, 2) := by decide +kernel
theorem jd_L_law_239 : decode jc_L_law 239 = .ok (.iconst 2, 1) := by decide +kernel
theorem jd_L_law_240 : decode jc_L_law 240 = .ok (.iadd, 1) := by decide +kernel
theorem jd_L_law_241 : decode jc_L_law 241 = .ok (.iaload, 1) := by decide +kernel
theorem jd_L_law_242 : decode jc_L_law 242 = .ok (.aload_n 0, 1) := by decide +kernel
