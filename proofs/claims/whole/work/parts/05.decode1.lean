theorem jd_X_find_0 : decode jc_X_find 0 = .ok (.aload_n 0, 1) := by decide +kernel
theorem jd_X_find_1 : decode jc_X_find 1 = .ok (.aload_n 1, 1) := by decide +kernel
theorem jd_X_find_2 : decode jc_X_find 2 = .ok (.iconst 2, 1) := by decide +kernel
theorem jd_X_find_3 : decode jc_X_find 3 = .ok (.aaload, 1) := by decide +kernel
theorem jd_X_find_4 : decode jc_X_find 4 = .ok (.aload_n 1, 1) := by decide +kernel
theorem jd_X_find_5 : decode jc_X_find 5 = .ok (.iconst 3, 1) := by decide +kernel
theorem jd_X_find_6 : decode jc_X_find 6 = .ok (.aaload, 1) := by decide +kernel
theorem jd_X_find_7 : decode jc_X_find 7 = .ok (.iload_n 2, 1) := by decide +kernel
theorem jd_X_find_8 : decode jc_X_find 8 = .ok (.invokevirtual 18, 3) := by decide +kernel
theorem jd_X_find_11 : decode jc_X_find 11 = .ok (.aload_n 1, 1) := by decide +kernel
theorem jd_X_find_12 : decode jc_X_find 12 = .ok (.iconst 0, 1) := by decide +kernel
theorem jd_X_find_13 : decode jc_X_find 13 = .ok (.aaload, 1) := by decide +kernel
theorem jd_X_find_14 : decode jc_X_find 14 = .ok (.astore_n 3, 1) := by decide +kernel
theorem jd_X_find_15 : decode jc_X_find 15 = .ok (.aload_n 1, 1) := by decide +kernel
theorem jd_X_find_16 : decode jc_X_find 16 = .ok (.iconst 1, 1) := by decide +kernel
theorem jd_X_find_17 : decode jc_X_find 17 = .ok (.aaload, 1) := by decide +kernel
theorem jd_X_find_18 : decode jc_X_find 18 = .ok (.astore 4, 2) := by decide +kernel
theorem jd_X_find_20 : decode jc_X_find 20 = .ok (.ldc 22, 2) := by decide +kernel
theorem jd_X_find_22 : decode jc_X_find 22 = .ok (.istore 5, 2) := by decide +kernel
theorem jd_X_find_24 : decode jc_X_find 24 = .ok (.iconst 0, 1) := by decide +kernel
theorem jd_X_find_25 : decode jc_X_find 25 = .ok (.istore 6, 2) := by decide +kernel
theorem jd_X_find_27 : decode jc_X_find 27 = .ok (.iload 6, 2) := by decide +kernel
theorem jd_X_find_29 : decode jc_X_find 29 = .ok (.aload_n 3, 1) := by decide +kernel
theorem jd_X_find_30 : decode jc_X_find 30 = .ok (.getfield 23, 3) := by decide +kernel
theorem jd_X_find_33 : decode jc_X_find 33 = .ok (.if_icmp .gt 127, 3) := by decide +kernel
theorem jd_X_find_36 : decode jc_X_find 36 = .ok (.iload 6, 2) := by decide +kernel
theorem jd_X_find_38 : decode jc_X_find 38 = .ok (.aload_n 3, 1) := by decide +kernel
theorem jd_X_find_39 : decode jc_X_find 39 = .ok (.getfield 29, 3) := by decide +kernel
theorem jd_X_find_42 : decode jc_X_find 42 = .ok (.imul, 1) := by decide +kernel
theorem jd_X_find_43 : decode jc_X_find 43 = .ok (.iload_n 2, 1) := by decide +kernel
theorem jd_X_find_44 : decode jc_X_find 44 = .ok (.if_icmp .gt 116, 3) := by decide +kernel
theorem jd_X_find_47 : decode jc_X_find 47 = .ok (.iload_n 2, 1) := by decide +kernel
theorem jd_X_find_48 : decode jc_X_find 48 = .ok (.iload 6, 2) := by decide +kernel
theorem jd_X_find_50 : decode jc_X_find 50 = .ok (.aload_n 3, 1) := by decide +kernel
theorem jd_X_find_51 : decode jc_X_find 51 = .ok (.getfield 29, 3) := by decide +kernel
theorem jd_X_find_54 : decode jc_X_find 54 = .ok (.imul, 1) := by decide +kernel
theorem jd_X_find_55 : decode jc_X_find 55 = .ok (.isub, 1) := by decide +kernel
theorem jd_X_find_56 : decode jc_X_find 56 = .ok (.istore 7, 2) := by decide +kernel
theorem jd_X_find_58 : decode jc_X_find 58 = .ok (.iconst 0, 1) := by decide +kernel
theorem jd_X_find_59 : decode jc_X_find 59 = .ok (.istore 8, 2) := by decide +kernel
theorem jd_X_find_61 : decode jc_X_find 61 = .ok (.iload 8, 2) := by decide +kernel
theorem jd_X_find_63 : decode jc_X_find 63 = .ok (.aload 4, 2) := by decide +kernel
theorem jd_X_find_65 : decode jc_X_find 65 = .ok (.getfield 23, 3) := by decide +kernel
theorem jd_X_find_68 : decode jc_X_find 68 = .ok (.if_icmp .gt 86, 3) := by decide +kernel
theorem jd_X_find_71 : decode jc_X_find 71 = .ok (.iload 8, 2) := by decide +kernel
theorem jd_X_find_73 : decode jc_X_find 73 = .ok (.aload 4, 2) := by decide +kernel
theorem jd_X_find_75 : decode jc_X_find 75 = .ok (.getfield 29, 3) := by decide +kernel
theorem jd_X_find_78 : decode jc_X_find 78 = .ok (.imul, 1) := by decide +kernel
theorem jd_X_find_79 : decode jc_X_find 79 = .ok (.iload 7, 2) := by decide +kernel
theorem jd_X_find_81 : decode jc_X_find 81 = .ok (.if_icmp .gt 73, 3) := by decide +kernel
theorem jd_X_find_84 : decode jc_X_find 84 = .ok (.aload_n 0, 1) := by decide +kernel
theorem jd_X_find_85 : decode jc_X_find 85 = .ok (.getfield 15, 3) := by decide +kernel
theorem jd_X_find_88 : decode jc_X_find 88 = .ok (.iload 7, 2) := by decide +kernel
theorem jd_X_find_90 : decode jc_X_find 90 = .ok (.iload 8, 2) := by decide +kernel
theorem jd_X_find_92 : decode jc_X_find 92 = .ok (.aload 4, 2) := by decide +kernel
theorem jd_X_find_94 : decode jc_X_find 94 = .ok (.getfield 29, 3) := by decide +kernel
theorem jd_X_find_97 : decode jc_X_find 97 = .ok (.imul, 1) := by decide +kernel
theorem jd_X_find_98 : decode jc_X_find 98 = .ok (.isub, 1) := by decide +kernel
theorem jd_X_find_99 : decode jc_X_find 99 = .ok (.iaload, 1) := by decide +kernel
theorem jd_X_find_100 : decode jc_X_find 100 = .ok (.istore 9, 2) := by decide +kernel
theorem jd_X_find_102 : decode jc_X_find 102 = .ok (.iload 9, 2) := by decide +kernel
theorem jd_X_find_104 : decode jc_X_find 104 = .ok (.ldc 22, 2) := by decide +kernel
theorem jd_X_find_106 : decode jc_X_find 106 = .ok (.if_icmp .eq 42, 3) := by decide +kernel
theorem jd_X_find_109 : decode jc_X_find 109 = .ok (.iload 6, 2) := by decide +kernel
theorem jd_X_find_111 : decode jc_X_find 111 = .ok (.iload 8, 2) := by decide +kernel
theorem jd_X_find_113 : decode jc_X_find 113 = .ok (.iadd, 1) := by decide +kernel
theorem jd_X_find_114 : decode jc_X_find 114 = .ok (.iload 9, 2) := by decide +kernel
theorem jd_X_find_116 : decode jc_X_find 116 = .ok (.bipush 51, 2) := by decide +kernel
theorem jd_X_find_118 : decode jc_X_find 118 = .ok (.idiv, 1) := by decide +kernel
theorem jd_X_find_119 : decode jc_X_find 119 = .ok (.iadd, 1) := by decide +kernel
theorem jd_X_find_120 : decode jc_X_find 120 = .ok (.iload 5, 2) := by decide +kernel
theorem jd_X_find_122 : decode jc_X_find 122 = .ok (.if_icmp .gt 26, 3) := by decide +kernel
theorem jd_X_find_125 : decode jc_X_find 125 = .ok (.iload 6, 2) := by decide +kernel
theorem jd_X_find_127 : decode jc_X_find 127 = .ok (.iload 8, 2) := by decide +kernel
theorem jd_X_find_129 : decode jc_X_find 129 = .ok (.iadd, 1) := by decide +kernel
theorem jd_X_find_130 : decode jc_X_find 130 = .ok (.iload 9, 2) := by decide +kernel
theorem jd_X_find_132 : decode jc_X_find 132 = .ok (.bipush 51, 2) := by decide +kernel
theorem jd_X_find_134 : decode jc_X_find 134 = .ok (.idiv, 1) := by decide +kernel
theorem jd_X_find_135 : decode jc_X_find 135 = .ok (.iadd, 1) := by decide +kernel
theorem jd_X_find_136 : decode jc_X_find 136 = .ok (.istore 5, 2) := by decide +kernel
theorem jd_X_find_138 : decode jc_X_find 138 = .ok (.aload_n 0, 1) := by decide +kernel
theorem jd_X_find_139 : decode jc_X_find 139 = .ok (.iload 6, 2) := by decide +kernel
theorem jd_X_find_141 : decode jc_X_find 141 = .ok (.iload 8, 2) := by decide +kernel
theorem jd_X_find_143 : decode jc_X_find 143 = .ok (.iload 9, 2) := by decide +kernel
theorem jd_X_find_145 : decode jc_X_find 145 = .ok (.invokevirtual 32, 3) := by decide +kernel
theorem jd_X_find_148 : decode jc_X_find 148 = .ok (.iinc 8 1, 3) := by decide +kernel
theorem jd_X_find_151 : decode jc_X_find 151 = .ok (.goto (-90), 3) := by decide +kernel
theorem jd_X_find_154 : decode jc_X_find 154 = .ok (.iinc 6 1, 3) := by decide +kernel
theorem jd_X_find_157 : decode jc_X_find 157 = .ok (.goto (-130), 3) := by decide +kernel
theorem jd_X_find_160 : decode jc_X_find 160 = .ok (.iload 5, 2) := by decide +kernel
theorem jd_X_find_162 : decode jc_X_find 162 = .ok (.ldc 22, 2) := by decide +kernel
theorem jd_X_find_164 : decode jc_X_find 164 = .ok (.if_icmp .eq 7, 3) := by decide +kernel
theorem jd_X_find_167 : decode jc_X_find 167 = .ok (.iconst 1, 1) := by decide +kernel
theorem jd_X_find_168 : decode jc_X_find 168 = .ok (.goto 4, 3) := by decide +kernel
theorem jd_X_find_171 : decode jc_X_find 171 = .ok (.iconst 0, 1) := by decide +kernel
theorem jd_X_find_172 : decode jc_X_find 172 = .ok (.ireturn, 1) := by decide +kernel
theorem jd_X_rankLastTwo_0 : decode jc_X_rankLastTwo 0 = .ok (.aload_n 0, 1) := by decide +kernel
theorem jd_X_rankLastTwo_1 : decode jc_X_rankLastTwo 1 = .ok (.getfield 15, 3) := by decide +kernel
theorem jd_X_rankLastTwo_4 : decode jc_X_rankLastTwo 4 = .ok (.ldc 22, 2) := by decide +kernel
theorem jd_X_rankLastTwo_6 : decode jc_X_rankLastTwo 6 = .ok (.invokestatic 36, 3) := by decide +kernel
theorem jd_X_rankLastTwo_9 : decode jc_X_rankLastTwo 9 = .ok (.iconst 0, 1) := by decide +kernel
theorem jd_X_rankLastTwo_10 : decode jc_X_rankLastTwo 10 = .ok (.istore 4, 2) := by decide +kernel
theorem jd_X_rankLastTwo_12 : decode jc_X_rankLastTwo 12 = .ok (.iload 4, 2) := by decide +kernel
theorem jd_X_rankLastTwo_14 : decode jc_X_rankLastTwo 14 = .ok (.aload_n 1, 1) := by decide +kernel
theorem jd_X_rankLastTwo_15 : decode jc_X_rankLastTwo 15 = .ok (.getfield 23, 3) := by decide +kernel
theorem jd_X_rankLastTwo_18 : decode jc_X_rankLastTwo 18 = .ok (.if_icmp .gt 113, 3) := by decide +kernel
theorem jd_X_rankLastTwo_21 : decode jc_X_rankLastTwo 21 = .ok (.iload 4, 2) := by decide +kernel
theorem jd_X_rankLastTwo_23 : decode jc_X_rankLastTwo 23 = .ok (.aload_n 1, 1) := by decide +kernel
theorem jd_X_rankLastTwo_24 : decode jc_X_rankLastTwo 24 = .ok (.getfield 29, 3) := by decide +kernel
theorem jd_X_rankLastTwo_27 : decode jc_X_rankLastTwo 27 = .ok (.imul, 1) := by decide +kernel
theorem jd_X_rankLastTwo_28 : decode jc_X_rankLastTwo 28 = .ok (.iload_n 3, 1) := by decide +kernel
theorem jd_X_rankLastTwo_29 : decode jc_X_rankLastTwo 29 = .ok (.if_icmp .gt 102, 3) := by decide +kernel
theorem jd_X_rankLastTwo_32 : decode jc_X_rankLastTwo 32 = .ok (.iload_n 3, 1) := by decide +kernel
theorem jd_X_rankLastTwo_33 : decode jc_X_rankLastTwo 33 = .ok (.iload 4, 2) := by decide +kernel
theorem jd_X_rankLastTwo_35 : decode jc_X_rankLastTwo 35 = .ok (.aload_n 1, 1) := by decide +kernel
theorem jd_X_rankLastTwo_36 : decode jc_X_rankLastTwo 36 = .ok (.getfield 29, 3) := by decide +kernel
theorem jd_X_rankLastTwo_39 : decode jc_X_rankLastTwo 39 = .ok (.imul, 1) := by decide +kernel
theorem jd_X_rankLastTwo_40 : decode jc_X_rankLastTwo 40 = .ok (.isub, 1) := by decide +kernel
theorem jd_X_rankLastTwo_41 : decode jc_X_rankLastTwo 41 = .ok (.istore 5, 2) := by decide +kernel
theorem jd_X_rankLastTwo_43 : decode jc_X_rankLastTwo 43 = .ok (.iconst 0, 1) := by decide +kernel
theorem jd_X_rankLastTwo_44 : decode jc_X_rankLastTwo 44 = .ok (.istore 6, 2) := by decide +kernel
theorem jd_X_rankLastTwo_46 : decode jc_X_rankLastTwo 46 = .ok (.iload 6, 2) := by decide +kernel
theorem jd_X_rankLastTwo_48 : decode jc_X_rankLastTwo 48 = .ok (.aload_n 2, 1) := by decide +kernel
theorem jd_X_rankLastTwo_49 : decode jc_X_rankLastTwo 49 = .ok (.getfield 23, 3) := by decide +kernel
theorem jd_X_rankLastTwo_52 : decode jc_X_rankLastTwo 52 = .ok (.if_icmp .gt 73, 3) := by decide +kernel
theorem jd_X_rankLastTwo_55 : decode jc_X_rankLastTwo 55 = .ok (.iload 6, 2) := by decide +kernel
theorem jd_X_rankLastTwo_57 : decode jc_X_rankLastTwo 57 = .ok (.aload_n 2, 1) := by decide +kernel
theorem jd_X_rankLastTwo_58 : decode jc_X_rankLastTwo 58 = .ok (.getfield 29, 3) := by decide +kernel
theorem jd_X_rankLastTwo_61 : decode jc_X_rankLastTwo 61 = .ok (.imul, 1) := by decide +kernel
theorem jd_X_rankLastTwo_62 : decode jc_X_rankLastTwo 62 = .ok (.iload 5, 2) := by decide +kernel
theorem jd_X_rankLastTwo_64 : decode jc_X_rankLastTwo 64 = .ok (.if_icmp .gt 61, 3) := by decide +kernel
theorem jd_X_rankLastTwo_67 : decode jc_X_rankLastTwo 67 = .ok (.iload 4, 2) := by decide +kernel
theorem jd_X_rankLastTwo_69 : decode jc_X_rankLastTwo 69 = .ok (.aload_n 1, 1) := by decide +kernel
theorem jd_X_rankLastTwo_70 : decode jc_X_rankLastTwo 70 = .ok (.getfield 29, 3) := by decide +kernel
theorem jd_X_rankLastTwo_73 : decode jc_X_rankLastTwo 73 = .ok (.imul, 1) := by decide +kernel
theorem jd_X_rankLastTwo_74 : decode jc_X_rankLastTwo 74 = .ok (.iload 6, 2) := by decide +kernel
theorem jd_X_rankLastTwo_76 : decode jc_X_rankLastTwo 76 = .ok (.aload_n 2, 1) := by decide +kernel
theorem jd_X_rankLastTwo_77 : decode jc_X_rankLastTwo 77 = .ok (.getfield 29, 3) := by decide +kernel
theorem jd_X_rankLastTwo_80 : decode jc_X_rankLastTwo 80 = .ok (.imul, 1) := by decide +kernel
theorem jd_X_rankLastTwo_81 : decode jc_X_rankLastTwo 81 = .ok (.iadd, 1) := by decide +kernel
theorem jd_X_rankLastTwo_82 : decode jc_X_rankLastTwo 82 = .ok (.istore 7, 2) := by decide +kernel
theorem jd_X_rankLastTwo_84 : decode jc_X_rankLastTwo 84 = .ok (.iload 4, 2) := by decide +kernel
theorem jd_X_rankLastTwo_86 : decode jc_X_rankLastTwo 86 = .ok (.iload 6, 2) := by decide +kernel
theorem jd_X_rankLastTwo_88 : decode jc_X_rankLastTwo 88 = .ok (.iadd, 1) := by decide +kernel
theorem jd_X_rankLastTwo_89 : decode jc_X_rankLastTwo 89 = .ok (.bipush 51, 2) := by decide +kernel
theorem jd_X_rankLastTwo_91 : decode jc_X_rankLastTwo 91 = .ok (.imul, 1) := by decide +kernel
theorem jd_X_rankLastTwo_92 : decode jc_X_rankLastTwo 92 = .ok (.bipush 50, 2) := by decide +kernel
theorem jd_X_rankLastTwo_94 : decode jc_X_rankLastTwo 94 = .ok (.iadd, 1) := by decide +kernel
theorem jd_X_rankLastTwo_95 : decode jc_X_rankLastTwo 95 = .ok (.iload 4, 2) := by decide +kernel
theorem jd_X_rankLastTwo_97 : decode jc_X_rankLastTwo 97 = .ok (.isub, 1) := by decide +kernel
theorem jd_X_rankLastTwo_98 : decode jc_X_rankLastTwo 98 = .ok (.istore 8, 2) := by decide +kernel
theorem jd_X_rankLastTwo_100 : decode jc_X_rankLastTwo 100 = .ok (.aload_n 0, 1) := by decide +kernel
theorem jd_X_rankLastTwo_101 : decode jc_X_rankLastTwo 101 = .ok (.getfield 15, 3) := by decide +kernel
theorem jd_X_rankLastTwo_104 : decode jc_X_rankLastTwo 104 = .ok (.iload 7, 2) := by decide +kernel
theorem jd_X_rankLastTwo_106 : decode jc_X_rankLastTwo 106 = .ok (.aload_n 0, 1) := by decide +kernel
theorem jd_X_rankLastTwo_107 : decode jc_X_rankLastTwo 107 = .ok (.getfield 15, 3) := by decide +kernel
theorem jd_X_rankLastTwo_110 : decode jc_X_rankLastTwo 110 = .ok (.iload 7, 2) := by decide +kernel
theorem jd_X_rankLastTwo_112 : decode jc_X_rankLastTwo 112 = .ok (.iaload, 1) := by decide +kernel
theorem jd_X_rankLastTwo_113 : decode jc_X_rankLastTwo 113 = .ok (.iload 8, 2) := by decide +kernel
theorem jd_X_rankLastTwo_115 : decode jc_X_rankLastTwo 115 = .ok (.invokestatic 42, 3) := by decide +kernel
theorem jd_X_rankLastTwo_118 : decode jc_X_rankLastTwo 118 = .ok (.iastore, 1) := by decide +kernel
theorem jd_X_rankLastTwo_119 : decode jc_X_rankLastTwo 119 = .ok (.iinc 6 1, 3) := by decide +kernel
theorem jd_X_rankLastTwo_122 : decode jc_X_rankLastTwo 122 = .ok (.goto (-76), 3) := by decide +kernel
theorem jd_X_rankLastTwo_125 : decode jc_X_rankLastTwo 125 = .ok (.iinc 4 1, 3) := by decide +kernel
theorem jd_X_rankLastTwo_128 : decode jc_X_rankLastTwo 128 = .ok (.goto (-116), 3) := by decide +kernel
theorem jd_X_rankLastTwo_131 : decode jc_X_rankLastTwo 131 = .ok (.return_, 1) := by decide +kernel
theorem jd_F_fill_0 : decode jc_F_fill 0 = .ok (.iconst 0, 1) := by decide +kernel
theorem jd_F_fill_1 : decode jc_F_fill 1 = .ok (.istore_n 2, 1) := by decide +kernel
theorem jd_F_fill_2 : decode jc_F_fill 2 = .ok (.aload_n 0, 1) := by decide +kernel
theorem jd_F_fill_3 : decode jc_F_fill 3 = .ok (.arraylength, 1) := by decide +kernel
theorem jd_F_fill_4 : decode jc_F_fill 4 = .ok (.istore_n 3, 1) := by decide +kernel
theorem jd_F_fill_5 : decode jc_F_fill 5 = .ok (.iload_n 2, 1) := by decide +kernel
theorem jd_F_fill_6 : decode jc_F_fill 6 = .ok (.iload_n 3, 1) := by decide +kernel
theorem jd_F_fill_7 : decode jc_F_fill 7 = .ok (.if_icmp .ge 13, 3) := by decide +kernel
theorem jd_F_fill_10 : decode jc_F_fill 10 = .ok (.aload_n 0, 1) := by decide +kernel
theorem jd_F_fill_11 : decode jc_F_fill 11 = .ok (.iload_n 2, 1) := by decide +kernel
theorem jd_F_fill_12 : decode jc_F_fill 12 = .ok (.iload_n 1, 1) := by decide +kernel
theorem jd_F_fill_13 : decode jc_F_fill 13 = .ok (.iastore, 1) := by decide +kernel
theorem jd_F_fill_14 : decode jc_F_fill 14 = .ok (.iinc 2 1, 3) := by decide +kernel
theorem jd_F_fill_17 : decode jc_F_fill 17 = .ok (.goto (-12), 3) := by decide +kernel
theorem jd_F_fill_20 : decode jc_F_fill 20 = .ok (.return_, 1) := by decide +kernel
theorem jd_X_keep_0 : decode jc_X_keep 0 = .ok (.bipush 50, 2) := by decide +kernel
theorem jd_X_keep_2 : decode jc_X_keep 2 = .ok (.iload_n 3, 1) := by decide +kernel
theorem jd_X_keep_3 : decode jc_X_keep 3 = .ok (.bipush 51, 2) := by decide +kernel
theorem jd_X_keep_5 : decode jc_X_keep 5 = .ok (.irem, 1) := by decide +kernel
theorem jd_X_keep_6 : decode jc_X_keep 6 = .ok (.isub, 1) := by decide +kernel
theorem jd_X_keep_7 : decode jc_X_keep 7 = .ok (.istore 4, 2) := by decide +kernel
theorem jd_X_keep_9 : decode jc_X_keep 9 = .ok (.aload_n 0, 1) := by decide +kernel
theorem jd_X_keep_10 : decode jc_X_keep 10 = .ok (.getfield 9, 3) := by decide +kernel
theorem jd_X_keep_13 : decode jc_X_keep 13 = .ok (.iconst 0, 1) := by decide +kernel
theorem jd_X_keep_14 : decode jc_X_keep 14 = .ok (.iload_n 1, 1) := by decide +kernel
theorem jd_X_keep_15 : decode jc_X_keep 15 = .ok (.iastore, 1) := by decide +kernel
theorem jd_X_keep_16 : decode jc_X_keep 16 = .ok (.aload_n 0, 1) := by decide +kernel
theorem jd_X_keep_17 : decode jc_X_keep 17 = .ok (.getfield 9, 3) := by decide +kernel
theorem jd_X_keep_20 : decode jc_X_keep 20 = .ok (.iconst 1, 1) := by decide +kernel
theorem jd_X_keep_21 : decode jc_X_keep 21 = .ok (.iload_n 2, 1) := by decide +kernel
theorem jd_X_keep_22 : decode jc_X_keep 22 = .ok (.iastore, 1) := by decide +kernel
theorem jd_X_keep_23 : decode jc_X_keep 23 = .ok (.aload_n 0, 1) := by decide +kernel
theorem jd_X_keep_24 : decode jc_X_keep 24 = .ok (.getfield 9, 3) := by decide +kernel
theorem jd_X_keep_27 : decode jc_X_keep 27 = .ok (.iconst 2, 1) := by decide +kernel
theorem jd_X_keep_28 : decode jc_X_keep 28 = .ok (.iload 4, 2) := by decide +kernel
theorem jd_X_keep_30 : decode jc_X_keep 30 = .ok (.iastore, 1) := by decide +kernel
theorem jd_X_keep_31 : decode jc_X_keep 31 = .ok (.aload_n 0, 1) := by decide +kernel
theorem jd_X_keep_32 : decode jc_X_keep 32 = .ok (.getfield 9, 3) := by decide +kernel
theorem jd_X_keep_35 : decode jc_X_keep 35 = .ok (.iconst 3, 1) := by decide +kernel
theorem jd_X_keep_36 : decode jc_X_keep 36 = .ok (.iload_n 3, 1) := by decide +kernel
theorem jd_X_keep_37 : decode jc_X_keep 37 = .ok (.bipush 51, 2) := by decide +kernel
theorem jd_X_keep_39 : decode jc_X_keep 39 = .ok (.idiv, 1) := by decide +kernel
theorem jd_X_keep_40 : decode jc_X_keep 40 = .ok (.iload 4, 2) := by decide +kernel
theorem jd_X_keep_42 : decode jc_X_keep 42 = .ok (.isub, 1) := by decide +kernel
theorem jd_X_keep_43 : decode jc_X_keep 43 = .ok (.iastore, 1) := by decide +kernel
theorem jd_X_keep_44 : decode jc_X_keep 44 = .ok (.return_, 1) := by decide +kernel
theorem jd_J_begin_0 : decode jc_J_begin 0 = .ok (.aload_n 0, 1) := by decide +kernel
theorem jd_J_begin_1 : decode jc_J_begin 1 = .ok (.getfield 11, 3) := by decide +kernel
theorem jd_J_begin_4 : decode jc_J_begin 4 = .ok (.aload_n 0, 1) := by decide +kernel
theorem jd_J_begin_5 : decode jc_J_begin 5 = .ok (.getfield 17, 3) := by decide +kernel
theorem jd_J_begin_8 : decode jc_J_begin 8 = .ok (.aaload, 1) := by decide +kernel
theorem jd_J_begin_9 : decode jc_J_begin 9 = .ok (.astore_n 3, 1) := by decide +kernel
theorem jd_J_begin_10 : decode jc_J_begin 10 = .ok (.aload_n 0, 1) := by decide +kernel
theorem jd_J_begin_11 : decode jc_J_begin 11 = .ok (.dup, 1) := by decide +kernel
theorem jd_J_begin_12 : decode jc_J_begin 12 = .ok (.getfield 17, 3) := by decide +kernel
theorem jd_J_begin_15 : decode jc_J_begin 15 = .ok (.iconst 1, 1) := by decide +kernel
theorem jd_J_begin_16 : decode jc_J_begin 16 = .ok (.iadd, 1) := by decide +kernel
theorem jd_J_begin_17 : decode jc_J_begin 17 = .ok (.putfield 17, 3) := by decide +kernel
theorem jd_J_begin_20 : decode jc_J_begin 20 = .ok (.aload_n 3, 1) := by decide +kernel
theorem jd_J_begin_21 : decode jc_J_begin 21 = .ok (.iload_n 1, 1) := by decide +kernel
theorem jd_J_begin_22 : decode jc_J_begin 22 = .ok (.putfield 24, 3) := by decide +kernel
theorem jd_J_begin_25 : decode jc_J_begin 25 = .ok (.aload_n 3, 1) := by decide +kernel
theorem jd_J_begin_26 : decode jc_J_begin 26 = .ok (.iload_n 2, 1) := by decide +kernel
theorem jd_J_begin_27 : decode jc_J_begin 27 = .ok (.putfield 27, 3) := by decide +kernel
theorem jd_J_begin_30 : decode jc_J_begin 30 = .ok (.aload_n 3, 1) := by decide +kernel
theorem jd_J_begin_31 : decode jc_J_begin 31 = .ok (.iconst 1, 1) := by decide +kernel
theorem jd_J_begin_32 : decode jc_J_begin 32 = .ok (.putfield 30, 3) := by decide +kernel
theorem jd_J_begin_35 : decode jc_J_begin 35 = .ok (.aload_n 3, 1) := by decide +kernel
theorem jd_J_begin_36 : decode jc_J_begin 36 = .ok (.areturn, 1) := by decide +kernel
theorem jd_C_request_0 : decode jc_C_request 0 = .ok (.aload_n 0, 1) := by decide +kernel
theorem jd_C_request_1 : decode jc_C_request 1 = .ok (.iconst 1, 1) := by decide +kernel
theorem jd_C_request_2 : decode jc_C_request 2 = .ok (.invokevirtual 201, 3) := by decide +kernel
theorem jd_C_request_5 : decode jc_C_request 5 = .ok (.ifCond .eq 6, 3) := by decide +kernel
theorem jd_C_request_8 : decode jc_C_request 8 = .ok (.bipush (-3), 2) := by decide +kernel
theorem jd_C_request_10 : decode jc_C_request 10 = .ok (.ireturn, 1) := by decide +kernel
theorem jd_C_request_11 : decode jc_C_request 11 = .ok (.aload_n 0, 1) := by decide +kernel
theorem jd_C_request_12 : decode jc_C_request 12 = .ok (.aload_n 1, 1) := by decide +kernel
theorem jd_C_request_13 : decode jc_C_request 13 = .ok (.invokevirtual 204, 3) := by decide +kernel
theorem jd_C_request_16 : decode jc_C_request 16 = .ok (.istore_n 2, 1) := by decide +kernel
theorem jd_C_request_17 : decode jc_C_request 17 = .ok (.iload_n 2, 1) := by decide +kernel
theorem jd_C_request_18 : decode jc_C_request 18 = .ok (.bipush (-2), 2) := by decide +kernel
theorem jd_C_request_20 : decode jc_C_request 20 = .ok (.if_icmp .ne 11, 3) := by decide +kernel
theorem jd_C_request_23 : decode jc_C_request 23 = .ok (.aload_n 0, 1) := by decide +kernel
theorem jd_C_request_24 : decode jc_C_request 24 = .ok (.aload_n 1, 1) := by decide +kernel
theorem jd_C_request_25 : decode jc_C_request 25 = .ok (.invokevirtual 207, 3) := by decide +kernel
theorem jd_C_request_28 : decode jc_C_request 28 = .ok (.bipush (-2), 2) := by decide +kernel
theorem jd_C_request_30 : decode jc_C_request 30 = .ok (.ireturn, 1) := by decide +kernel
theorem jd_C_request_31 : decode jc_C_request 31 = .ok (.iload_n 2, 1) := by decide +kernel
theorem jd_C_request_32 : decode jc_C_request 32 = .ok (.iconst (-1), 1) := by decide +kernel
theorem jd_C_request_33 : decode jc_C_request 33 = .ok (.if_icmp .ne 10, 3) := by decide +kernel
theorem jd_C_request_36 : decode jc_C_request 36 = .ok (.aload_n 1, 1) := by decide +kernel
theorem jd_C_request_37 : decode jc_C_request 37 = .ok (.iconst 4, 1) := by decide +kernel
theorem jd_C_request_38 : decode jc_C_request 38 = .ok (.putfield 166, 3) := by decide +kernel
theorem jd_C_request_41 : decode jc_C_request 41 = .ok (.iconst (-1), 1) := by decide +kernel
theorem jd_C_request_42 : decode jc_C_request 42 = .ok (.ireturn, 1) := by decide +kernel
theorem jd_C_request_43 : decode jc_C_request 43 = .ok (.aload_n 0, 1) := by decide +kernel
theorem jd_C_request_44 : decode jc_C_request 44 = .ok (.iconst 2, 1) := by decide +kernel
theorem jd_C_request_45 : decode jc_C_request 45 = .ok (.invokevirtual 201, 3) := by decide +kernel
theorem jd_C_request_48 : decode jc_C_request 48 = .ok (.ifCond .eq 6, 3) := by decide +kernel
theorem jd_C_request_51 : decode jc_C_request 51 = .ok (.bipush (-3), 2) := by decide +kernel
theorem jd_C_request_53 : decode jc_C_request 53 = .ok (.ireturn, 1) := by decide +kernel
theorem jd_C_request_54 : decode jc_C_request 54 = .ok (.aload_n 1, 1) := by decide +kernel
theorem jd_C_request_55 : decode jc_C_request 55 = .ok (.iconst 2, 1) := by decide +kernel
theorem jd_C_request_56 : decode jc_C_request 56 = .ok (.putfield 166, 3) := by decide +kernel
theorem jd_C_request_59 : decode jc_C_request 59 = .ok (.aload_n 0, 1) := by decide +kernel
theorem jd_C_request_60 : decode jc_C_request 60 = .ok (.aload_n 1, 1) := by decide +kernel
theorem jd_C_request_61 : decode jc_C_request 61 = .ok (.invokevirtual 210, 3) := by decide +kernel
theorem jd_C_request_64 : decode jc_C_request 64 = .ok (.ireturn, 1) := by decide +kernel
theorem jd_C_failsAt_0 : decode jc_C_failsAt 0 = .ok (.aload_n 0, 1) := by decide +kernel
theorem jd_C_failsAt_1 : decode jc_C_failsAt 1 = .ok (.getfield 55, 3) := by decide +kernel
theorem jd_C_failsAt_4 : decode jc_C_failsAt 4 = .ok (.iload_n 1, 1) := by decide +kernel
theorem jd_C_failsAt_5 : decode jc_C_failsAt 5 = .ok (.if_icmp .eq 5, 3) := by decide +kernel
theorem jd_C_failsAt_8 : decode jc_C_failsAt 8 = .ok (.iconst 0, 1) := by decide +kernel
theorem jd_C_failsAt_9 : decode jc_C_failsAt 9 = .ok (.ireturn, 1) := by decide +kernel
theorem jd_C_failsAt_10 : decode jc_C_failsAt 10 = .ok (.aload_n 0, 1) := by decide +kernel
theorem jd_C_failsAt_11 : decode jc_C_failsAt 11 = .ok (.iconst 0, 1) := by decide +kernel
theorem jd_C_failsAt_12 : decode jc_C_failsAt 12 = .ok (.putfield 55, 3) := by decide +kernel
theorem jd_C_failsAt_15 : decode jc_C_failsAt 15 = .ok (.aload_n 0, 1) := by decide +kernel
theorem jd_C_failsAt_16 : decode jc_C_failsAt 16 = .ok (.iconst 0, 1) := by decide +kernel
theorem jd_C_failsAt_17 : decode jc_C_failsAt 17 = .ok (.putfield 44, 3) := by decide +kernel
theorem jd_C_failsAt_20 : decode jc_C_failsAt 20 = .ok (.aload_n 0, 1) := by decide +kernel
theorem jd_C_failsAt_21 : decode jc_C_failsAt 21 = .ok (.invokevirtual 106, 3) := by decide +kernel
theorem jd_C_failsAt_24 : decode jc_C_failsAt 24 = .ok (.iconst 1, 1) := by decide +kernel
theorem jd_C_failsAt_25 : decode jc_C_failsAt 25 = .ok (.ireturn, 1) := by decide +kernel
theorem jd_C_exchangeRequest_0 : decode jc_C_exchangeRequest 0 = .ok (.aload_n 0, 1) := by decide +kernel
theorem jd_C_exchangeRequest_1 : decode jc_C_exchangeRequest 1 = .ok (.getfield 19, 3) := by decide +kernel
theorem jd_C_exchangeRequest_4 : decode jc_C_exchangeRequest 4 = .ok (.invokevirtual 230, 3) := by decide +kernel
theorem jd_C_exchangeRequest_7 : decode jc_C_exchangeRequest 7 = .ok (.istore_n 2, 1) := by decide +kernel
theorem jd_C_exchangeRequest_8 : decode jc_C_exchangeRequest 8 = .ok (.iload_n 2, 1) := by decide +kernel
theorem jd_C_exchangeRequest_9 : decode jc_C_exchangeRequest 9 = .ok (.iconst 1, 1) := by decide +kernel
theorem jd_C_exchangeRequest_10 : decode jc_C_exchangeRequest 10 = .ok (.if_icmp .ne 6, 3) := by decide +kernel
theorem jd_C_exchangeRequest_13 : decode jc_C_exchangeRequest 13 = .ok (.bipush (-2), 2) := by decide +kernel
theorem jd_C_exchangeRequest_15 : decode jc_C_exchangeRequest 15 = .ok (.ireturn, 1) := by decide +kernel
theorem jd_C_exchangeRequest_16 : decode jc_C_exchangeRequest 16 = .ok (.aload_n 0, 1) := by decide +kernel
theorem jd_C_exchangeRequest_17 : decode jc_C_exchangeRequest 17 = .ok (.getfield 10, 3) := by decide +kernel
theorem jd_C_exchangeRequest_20 : decode jc_C_exchangeRequest 20 = .ok (.aload_n 1, 1) := by decide +kernel
theorem jd_C_exchangeRequest_21 : decode jc_C_exchangeRequest 21 = .ok (.getfield 213, 3) := by decide +kernel
theorem jd_C_exchangeRequest_24 : decode jc_C_exchangeRequest 24 = .ok (.aload_n 1, 1) := by decide +kernel
theorem jd_C_exchangeRequest_25 : decode jc_C_exchangeRequest 25 = .ok (.getfield 171, 3) := by decide +kernel
theorem jd_C_exchangeRequest_28 : decode jc_C_exchangeRequest 28 = .ok (.aload_n 1, 1) := by decide +kernel
theorem jd_C_exchangeRequest_29 : decode jc_C_exchangeRequest 29 = .ok (.getfield 174, 3) := by decide +kernel
theorem jd_C_exchangeRequest_32 : decode jc_C_exchangeRequest 32 = .ok (.invokevirtual 233, 3) := by decide +kernel
theorem jd_C_exchangeRequest_35 : decode jc_C_exchangeRequest 35 = .ok (.istore_n 3, 1) := by decide +kernel
theorem jd_C_exchangeRequest_36 : decode jc_C_exchangeRequest 36 = .ok (.iload_n 2, 1) := by decide +kernel
theorem jd_C_exchangeRequest_37 : decode jc_C_exchangeRequest 37 = .ok (.iconst 3, 1) := by decide +kernel
theorem jd_C_exchangeRequest_38 : decode jc_C_exchangeRequest 38 = .ok (.if_icmp .ne 23, 3) := by decide +kernel
theorem jd_C_exchangeRequest_41 : decode jc_C_exchangeRequest 41 = .ok (.aload_n 0, 1) := by decide +kernel
theorem jd_C_exchangeRequest_42 : decode jc_C_exchangeRequest 42 = .ok (.getfield 10, 3) := by decide +kernel
theorem jd_C_exchangeRequest_45 : decode jc_C_exchangeRequest 45 = .ok (.aload_n 1, 1) := by decide +kernel
theorem jd_C_exchangeRequest_46 : decode jc_C_exchangeRequest 46 = .ok (.getfield 213, 3) := by decide +kernel
theorem jd_C_exchangeRequest_49 : decode jc_C_exchangeRequest 49 = .ok (.aload_n 1, 1) := by decide +kernel
theorem jd_C_exchangeRequest_50 : decode jc_C_exchangeRequest 50 = .ok (.getfield 171, 3) := by decide +kernel
theorem jd_C_exchangeRequest_53 : decode jc_C_exchangeRequest 53 = .ok (.aload_n 1, 1) := by decide +kernel
theorem jd_C_exchangeRequest_54 : decode jc_C_exchangeRequest 54 = .ok (.getfield 174, 3) := by decide +kernel
theorem jd_C_exchangeRequest_57 : decode jc_C_exchangeRequest 57 = .ok (.invokevirtual 233, 3) := by decide +kernel
theorem jd_C_exchangeRequest_60 : decode jc_C_exchangeRequest 60 = .ok (.pop, 1) := by decide +kernel
theorem jd_C_exchangeRequest_61 : decode jc_C_exchangeRequest 61 = .ok (.iload_n 2, 1) := by decide +kernel
theorem jd_C_exchangeRequest_62 : decode jc_C_exchangeRequest 62 = .ok (.iconst 2, 1) := by decide +kernel
theorem jd_C_exchangeRequest_63 : decode jc_C_exchangeRequest 63 = .ok (.if_icmp .ne 6, 3) := by decide +kernel
theorem jd_C_exchangeRequest_66 : decode jc_C_exchangeRequest 66 = .ok (.bipush (-2), 2) := by decide +kernel
theorem jd_C_exchangeRequest_68 : decode jc_C_exchangeRequest 68 = .ok (.ireturn, 1) := by decide +kernel
theorem jd_C_exchangeRequest_69 : decode jc_C_exchangeRequest 69 = .ok (.iload_n 3, 1) := by decide +kernel
theorem jd_C_exchangeRequest_70 : decode jc_C_exchangeRequest 70 = .ok (.ifCond .eq 7, 3) := by decide +kernel
theorem jd_C_exchangeRequest_73 : decode jc_C_exchangeRequest 73 = .ok (.iconst 2, 1) := by decide +kernel
theorem jd_C_exchangeRequest_74 : decode jc_C_exchangeRequest 74 = .ok (.goto 4, 3) := by decide +kernel
theorem jd_C_exchangeRequest_77 : decode jc_C_exchangeRequest 77 = .ok (.iconst (-1), 1) := by decide +kernel
theorem jd_C_exchangeRequest_78 : decode jc_C_exchangeRequest 78 = .ok (.ireturn, 1) := by decide +kernel
theorem jd_N_takeFirst_0 : decode jc_N_takeFirst 0 = .ok (.aload_n 0, 1) := by decide +kernel
theorem jd_N_takeFirst_1 : decode jc_N_takeFirst 1 = .ok (.getfield 15, 3) := by decide +kernel
theorem jd_N_takeFirst_4 : decode jc_N_takeFirst 4 = .ok (.ifCond .ne 5, 3) := by decide +kernel
theorem jd_N_takeFirst_7 : decode jc_N_takeFirst 7 = .ok (.iconst 0, 1) := by decide +kernel
theorem jd_N_takeFirst_8 : decode jc_N_takeFirst 8 = .ok (.ireturn, 1) := by decide +kernel
theorem jd_N_takeFirst_9 : decode jc_N_takeFirst 9 = .ok (.aload_n 0, 1) := by decide +kernel
theorem jd_N_takeFirst_10 : decode jc_N_takeFirst 10 = .ok (.getfield 9, 3) := by decide +kernel
theorem jd_N_takeFirst_13 : decode jc_N_takeFirst 13 = .ok (.iconst 0, 1) := by decide +kernel
theorem jd_N_takeFirst_14 : decode jc_N_takeFirst 14 = .ok (.iaload, 1) := by decide +kernel
theorem jd_N_takeFirst_15 : decode jc_N_takeFirst 15 = .ok (.istore_n 1, 1) := by decide +kernel
theorem jd_N_takeFirst_16 : decode jc_N_takeFirst 16 = .ok (.aload_n 0, 1) := by decide +kernel
theorem jd_N_takeFirst_17 : decode jc_N_takeFirst 17 = .ok (.dup, 1) := by decide +kernel
theorem jd_N_takeFirst_18 : decode jc_N_takeFirst 18 = .ok (.getfield 15, 3) := by decide +kernel
theorem jd_N_takeFirst_21 : decode jc_N_takeFirst 21 = .ok (.iconst 1, 1) := by decide +kernel
theorem jd_N_takeFirst_22 : decode jc_N_takeFirst 22 = .ok (.isub, 1) := by decide +kernel
theorem jd_N_takeFirst_23 : decode jc_N_takeFirst 23 = .ok (.putfield 15, 3) := by decide +kernel
theorem jd_N_takeFirst_26 : decode jc_N_takeFirst 26 = .ok (.aload_n 0, 1) := by decide +kernel
theorem jd_N_takeFirst_27 : decode jc_N_takeFirst 27 = .ok (.getfield 9, 3) := by decide +kernel
theorem jd_N_takeFirst_30 : decode jc_N_takeFirst 30 = .ok (.iconst 1, 1) := by decide +kernel
theorem jd_N_takeFirst_31 : decode jc_N_takeFirst 31 = .ok (.aload_n 0, 1) := by decide +kernel
theorem jd_N_takeFirst_32 : decode jc_N_takeFirst 32 = .ok (.getfield 9, 3) := by decide +kernel
theorem jd_N_takeFirst_35 : decode jc_N_takeFirst 35 = .ok (.iconst 0, 1) := by decide +kernel
theorem jd_N_takeFirst_36 : decode jc_N_takeFirst 36 = .ok (.aload_n 0, 1) := by decide +kernel
theorem jd_N_takeFirst_37 : decode jc_N_takeFirst 37 = .ok (.getfield 15, 3) := by decide +kernel
theorem jd_N_takeFirst_40 : decode jc_N_takeFirst 40 = .ok (.invokestatic 19, 3) := by decide +kernel
theorem jd_N_takeFirst_43 : decode jc_N_takeFirst 43 = .ok (.iload_n 1, 1) := by decide +kernel
theorem jd_N_takeFirst_44 : decode jc_N_takeFirst 44 = .ok (.ireturn, 1) := by decide +kernel
theorem jd_H_receiveRequest_0 : decode jc_H_receiveRequest 0 = .ok (.aload_n 0, 1) := by decide +kernel
theorem jd_H_receiveRequest_1 : decode jc_H_receiveRequest 1 = .ok (.getfield 17, 3) := by decide +kernel
theorem jd_H_receiveRequest_4 : decode jc_H_receiveRequest 4 = .ok (.iload_n 1, 1) := by decide +kernel
theorem jd_H_receiveRequest_5 : decode jc_H_receiveRequest 5 = .ok (.iaload, 1) := by decide +kernel
theorem jd_H_receiveRequest_6 : decode jc_H_receiveRequest 6 = .ok (.ifCond .ne 28, 3) := by decide +kernel
theorem jd_H_receiveRequest_9 : decode jc_H_receiveRequest 9 = .ok (.aload_n 0, 1) := by decide +kernel
theorem jd_H_receiveRequest_10 : decode jc_H_receiveRequest 10 = .ok (.getfield 17, 3) := by decide +kernel
theorem jd_H_receiveRequest_13 : decode jc_H_receiveRequest 13 = .ok (.iload_n 1, 1) := by decide +kernel
theorem jd_H_receiveRequest_14 : decode jc_H_receiveRequest 14 = .ok (.aload_n 0, 1) := by decide +kernel
theorem jd_H_receiveRequest_15 : decode jc_H_receiveRequest 15 = .ok (.iload_n 1, 1) := by decide +kernel
theorem jd_H_receiveRequest_16 : decode jc_H_receiveRequest 16 = .ok (.aload_n 0, 1) := by decide +kernel
theorem jd_H_receiveRequest_17 : decode jc_H_receiveRequest 17 = .ok (.getfield 11, 3) := by decide +kernel
theorem jd_H_receiveRequest_20 : decode jc_H_receiveRequest 20 = .ok (.iload_n 2, 1) := by decide +kernel
theorem jd_H_receiveRequest_21 : decode jc_H_receiveRequest 21 = .ok (.aaload, 1) := by decide +kernel
theorem jd_H_receiveRequest_22 : decode jc_H_receiveRequest 22 = .ok (.iload_n 3, 1) := by decide +kernel
theorem jd_H_receiveRequest_23 : decode jc_H_receiveRequest 23 = .ok (.invokevirtual 47, 3) := by decide +kernel
theorem jd_H_receiveRequest_26 : decode jc_H_receiveRequest 26 = .ok (.iastore, 1) := by decide +kernel
theorem jd_H_receiveRequest_27 : decode jc_H_receiveRequest 27 = .ok (.aload_n 0, 1) := by decide +kernel
theorem jd_H_receiveRequest_28 : decode jc_H_receiveRequest 28 = .ok (.getfield 21, 3) := by decide +kernel
theorem jd_H_receiveRequest_31 : decode jc_H_receiveRequest 31 = .ok (.iload_n 1, 1) := by decide +kernel
theorem jd_H_receiveRequest_32 : decode jc_H_receiveRequest 32 = .ok (.iload_n 2, 1) := by decide +kernel
theorem jd_H_receiveRequest_33 : decode jc_H_receiveRequest 33 = .ok (.iastore, 1) := by decide +kernel
theorem jd_H_receiveRequest_34 : decode jc_H_receiveRequest 34 = .ok (.aload_n 0, 1) := by decide +kernel
theorem jd_H_receiveRequest_35 : decode jc_H_receiveRequest 35 = .ok (.getfield 17, 3) := by decide +kernel
theorem jd_H_receiveRequest_38 : decode jc_H_receiveRequest 38 = .ok (.iload_n 1, 1) := by decide +kernel
theorem jd_H_receiveRequest_39 : decode jc_H_receiveRequest 39 = .ok (.iaload, 1) := by decide +kernel
theorem jd_H_receiveRequest_40 : decode jc_H_receiveRequest 40 = .ok (.iconst 2, 1) := by decide +kernel
theorem jd_H_receiveRequest_41 : decode jc_H_receiveRequest 41 = .ok (.if_icmp .ne 7, 3) := by decide +kernel
theorem jd_H_receiveRequest_44 : decode jc_H_receiveRequest 44 = .ok (.iconst 1, 1) := by decide +kernel
theorem jd_H_receiveRequest_45 : decode jc_H_receiveRequest 45 = .ok (.goto 4, 3) := by decide +kernel
theorem jd_H_receiveRequest_48 : decode jc_H_receiveRequest 48 = .ok (.iconst 0, 1) := by decide +kernel
theorem jd_H_receiveRequest_49 : decode jc_H_receiveRequest 49 = .ok (.ireturn, 1) := by decide +kernel
theorem jd_H_decide_0 : decode jc_H_decide 0 = .ok (.aload_n 0, 1) := by decide +kernel
theorem jd_H_decide_1 : decode jc_H_decide 1 = .ok (.getfield 24, 3) := by decide +kernel
theorem jd_H_decide_4 : decode jc_H_decide 4 = .ok (.iload_n 1, 1) := by decide +kernel
theorem jd_H_decide_5 : decode jc_H_decide 5 = .ok (.baload, 1) := by decide +kernel
theorem jd_H_decide_6 : decode jc_H_decide 6 = .ok (.ifCond .ne 18, 3) := by decide +kernel
theorem jd_H_decide_9 : decode jc_H_decide 9 = .ok (.aload_n 2, 1) := by decide +kernel
theorem jd_H_decide_10 : decode jc_H_decide 10 = .ok (.getfield 51, 3) := by decide +kernel
theorem jd_H_decide_13 : decode jc_H_decide 13 = .ok (.ifCond .ne 11, 3) := by decide +kernel
theorem jd_H_decide_16 : decode jc_H_decide 16 = .ok (.aload_n 2, 1) := by decide +kernel
theorem jd_H_decide_17 : decode jc_H_decide 17 = .ok (.getfield 44, 3) := by decide +kernel
theorem jd_H_decide_20 : decode jc_H_decide 20 = .ok (.iload_n 3, 1) := by decide +kernel
theorem jd_H_decide_21 : decode jc_H_decide 21 = .ok (.if_icmp .ge 5, 3) := by decide +kernel
theorem jd_H_decide_24 : decode jc_H_decide 24 = .ok (.iconst (-1), 1) := by decide +kernel
theorem jd_H_decide_25 : decode jc_H_decide 25 = .ok (.ireturn, 1) := by decide +kernel
theorem jd_H_decide_26 : decode jc_H_decide 26 = .ok (.aload_n 2, 1) := by decide +kernel
theorem jd_H_decide_27 : decode jc_H_decide 27 = .ok (.dup, 1) := by decide +kernel
theorem jd_H_decide_28 : decode jc_H_decide 28 = .ok (.getfield 44, 3) := by decide +kernel
theorem jd_H_decide_31 : decode jc_H_decide 31 = .ok (.iload_n 3, 1) := by decide +kernel
theorem jd_H_decide_32 : decode jc_H_decide 32 = .ok (.isub, 1) := by decide +kernel
theorem jd_H_decide_33 : decode jc_H_decide 33 = .ok (.putfield 44, 3) := by decide +kernel
theorem jd_H_decide_36 : decode jc_H_decide 36 = .ok (.iconst 2, 1) := by decide +kernel
theorem jd_H_decide_37 : decode jc_H_decide 37 = .ok (.ireturn, 1) := by decide +kernel
theorem jd_C_giveUp_0 : decode jc_C_giveUp 0 = .ok (.aload_n 1, 1) := by decide +kernel
theorem jd_C_giveUp_1 : decode jc_C_giveUp 1 = .ok (.iconst 4, 1) := by decide +kernel
theorem jd_C_giveUp_2 : decode jc_C_giveUp 2 = .ok (.putfield 166, 3) := by decide +kernel
theorem jd_C_giveUp_5 : decode jc_C_giveUp 5 = .ok (.aload_n 0, 1) := by decide +kernel
theorem jd_C_giveUp_6 : decode jc_C_giveUp 6 = .ok (.getfield 40, 3) := by decide +kernel
theorem jd_C_giveUp_9 : decode jc_C_giveUp 9 = .ok (.aload_n 1, 1) := by decide +kernel
theorem jd_C_giveUp_10 : decode jc_C_giveUp 10 = .ok (.getfield 213, 3) := by decide +kernel
theorem jd_C_giveUp_13 : decode jc_C_giveUp 13 = .ok (.aload_n 1, 1) := by decide +kernel
theorem jd_C_giveUp_14 : decode jc_C_giveUp 14 = .ok (.getfield 174, 3) := by decide +kernel
theorem jd_C_giveUp_17 : decode jc_C_giveUp 17 = .ok (.invokevirtual 224, 3) := by decide +kernel
theorem jd_C_giveUp_20 : decode jc_C_giveUp 20 = .ok (.return_, 1) := by decide +kernel
theorem jd_R_add_0 : decode jc_R_add 0 = .ok (.aload_n 0, 1) := by decide +kernel
theorem jd_R_add_1 : decode jc_R_add 1 = .ok (.getfield 18, 3) := by decide +kernel
theorem jd_R_add_4 : decode jc_R_add 4 = .ok (.bipush 40, 2) := by decide +kernel
theorem jd_R_add_6 : decode jc_R_add 6 = .ok (.if_icmp .ge 33, 3) := by decide +kernel
theorem jd_R_add_9 : decode jc_R_add 9 = .ok (.aload_n 0, 1) := by decide +kernel
theorem jd_R_add_10 : decode jc_R_add 10 = .ok (.getfield 9, 3) := by decide +kernel
theorem jd_R_add_13 : decode jc_R_add 13 = .ok (.aload_n 0, 1) := by decide +kernel
theorem jd_R_add_14 : decode jc_R_add 14 = .ok (.getfield 18, 3) := by decide +kernel
theorem jd_R_add_17 : decode jc_R_add 17 = .ok (.iload_n 1, 1) := by decide +kernel
theorem jd_R_add_18 : decode jc_R_add 18 = .ok (.iastore, 1) := by decide +kernel
theorem jd_R_add_19 : decode jc_R_add 19 = .ok (.aload_n 0, 1) := by decide +kernel
theorem jd_R_add_20 : decode jc_R_add 20 = .ok (.getfield 15, 3) := by decide +kernel
theorem jd_R_add_23 : decode jc_R_add 23 = .ok (.aload_n 0, 1) := by decide +kernel
theorem jd_R_add_24 : decode jc_R_add 24 = .ok (.getfield 18, 3) := by decide +kernel
theorem jd_R_add_27 : decode jc_R_add 27 = .ok (.iload_n 2, 1) := by decide +kernel
theorem jd_R_add_28 : decode jc_R_add 28 = .ok (.iastore, 1) := by decide +kernel
theorem jd_R_add_29 : decode jc_R_add 29 = .ok (.aload_n 0, 1) := by decide +kernel
theorem jd_R_add_30 : decode jc_R_add 30 = .ok (.dup, 1) := by decide +kernel
theorem jd_R_add_31 : decode jc_R_add 31 = .ok (.getfield 18, 3) := by decide +kernel
theorem jd_R_add_34 : decode jc_R_add 34 = .ok (.iconst 1, 1) := by decide +kernel
theorem jd_R_add_35 : decode jc_R_add 35 = .ok (.iadd, 1) := by decide +kernel
theorem jd_R_add_36 : decode jc_R_add 36 = .ok (.putfield 18, 3) := by decide +kernel
theorem jd_R_add_39 : decode jc_R_add 39 = .ok (.return_, 1) := by decide +kernel
theorem jd_C_present_0 : decode jc_C_present 0 = .ok (.aload_n 0, 1) := by decide +kernel
theorem jd_C_present_1 : decode jc_C_present 1 = .ok (.iconst 3, 1) := by decide +kernel
theorem jd_C_present_2 : decode jc_C_present 2 = .ok (.invokevirtual 201, 3) := by decide +kernel
theorem jd_C_present_5 : decode jc_C_present 5 = .ok (.ifCond .eq 6, 3) := by decide +kernel
theorem jd_C_present_8 : decode jc_C_present 8 = .ok (.bipush (-3), 2) := by decide +kernel
theorem jd_C_present_10 : decode jc_C_present 10 = .ok (.ireturn, 1) := by decide +kernel
theorem jd_C_present_11 : decode jc_C_present 11 = .ok (.aload_n 0, 1) := by decide +kernel
theorem jd_C_present_12 : decode jc_C_present 12 = .ok (.getfield 26, 3) := by decide +kernel
theorem jd_C_present_15 : decode jc_C_present 15 = .ok (.aload_n 1, 1) := by decide +kernel
theorem jd_C_present_16 : decode jc_C_present 16 = .ok (.getfield 213, 3) := by decide +kernel
theorem jd_C_present_19 : decode jc_C_present 19 = .ok (.invokevirtual 216, 3) := by decide +kernel
theorem jd_C_present_22 : decode jc_C_present 22 = .ok (.istore_n 2, 1) := by decide +kernel
theorem jd_C_present_23 : decode jc_C_present 23 = .ok (.aload_n 0, 1) := by decide +kernel
theorem jd_C_present_24 : decode jc_C_present 24 = .ok (.iconst 4, 1) := by decide +kernel
theorem jd_C_present_25 : decode jc_C_present 25 = .ok (.invokevirtual 201, 3) := by decide +kernel
theorem jd_C_present_28 : decode jc_C_present 28 = .ok (.ifCond .eq 6, 3) := by decide +kernel
theorem jd_C_present_31 : decode jc_C_present 31 = .ok (.bipush (-3), 2) := by decide +kernel
theorem jd_C_present_33 : decode jc_C_present 33 = .ok (.ireturn, 1) := by decide +kernel
theorem jd_C_present_34 : decode jc_C_present 34 = .ok (.aload_n 0, 1) := by decide +kernel
theorem jd_C_present_35 : decode jc_C_present 35 = .ok (.aload_n 1, 1) := by decide +kernel
theorem jd_C_present_36 : decode jc_C_present 36 = .ok (.iload_n 2, 1) := by decide +kernel
theorem jd_C_present_37 : decode jc_C_present 37 = .ok (.invokevirtual 220, 3) := by decide +kernel
theorem jd_C_present_40 : decode jc_C_present 40 = .ok (.iload_n 2, 1) := by decide +kernel
theorem jd_C_present_41 : decode jc_C_present 41 = .ok (.ireturn, 1) := by decide +kernel
theorem jd_D_payMix_0 : decode jc_D_payMix 0 = .ok (.aload_n 0, 1) := by decide +kernel
theorem jd_D_payMix_1 : decode jc_D_payMix 1 = .ok (.getfield 24, 3) := by decide +kernel
theorem jd_D_payMix_4 : decode jc_D_payMix 4 = .ok (.iconst (-1), 1) := by decide +kernel
theorem jd_D_payMix_5 : decode jc_D_payMix 5 = .ok (.if_icmp .ne 9, 3) := by decide +kernel
theorem jd_D_payMix_8 : decode jc_D_payMix 8 = .ok (.sipush 200, 3) := by decide +kernel
theorem jd_D_payMix_11 : decode jc_D_payMix 11 = .ok (.goto 7, 3) := by decide +kernel
theorem jd_D_payMix_14 : decode jc_D_payMix 14 = .ok (.aload_n 0, 1) := by decide +kernel
theorem jd_D_payMix_15 : decode jc_D_payMix 15 = .ok (.getfield 24, 3) := by decide +kernel
theorem jd_D_payMix_18 : decode jc_D_payMix 18 = .ok (.istore_n 2, 1) := by decide +kernel
theorem jd_D_payMix_19 : decode jc_D_payMix 19 = .ok (.aload_n 0, 1) := by decide +kernel
theorem jd_D_payMix_20 : decode jc_D_payMix 20 = .ok (.iconst (-1), 1) := by decide +kernel
theorem jd_D_payMix_21 : decode jc_D_payMix 21 = .ok (.putfield 24, 3) := by decide +kernel
theorem jd_D_payMix_24 : decode jc_D_payMix 24 = .ok (.iconst 0, 1) := by decide +kernel
theorem jd_D_payMix_25 : decode jc_D_payMix 25 = .ok (.istore_n 3, 1) := by decide +kernel
theorem jd_D_payMix_26 : decode jc_D_payMix 26 = .ok (.aload_n 0, 1) := by decide +kernel
theorem jd_D_payMix_27 : decode jc_D_payMix 27 = .ok (.invokevirtual 48, 3) := by decide +kernel
theorem jd_D_payMix_30 : decode jc_D_payMix 30 = .ok (.istore 4, 2) := by decide +kernel
theorem jd_D_payMix_32 : decode jc_D_payMix 32 = .ok (.iconst 0, 1) := by decide +kernel
theorem jd_D_payMix_33 : decode jc_D_payMix 33 = .ok (.istore 5, 2) := by decide +kernel
theorem jd_D_payMix_35 : decode jc_D_payMix 35 = .ok (.iload 5, 2) := by decide +kernel
theorem jd_D_payMix_37 : decode jc_D_payMix 37 = .ok (.iload_n 2, 1) := by decide +kernel
theorem jd_D_payMix_38 : decode jc_D_payMix 38 = .ok (.if_icmp .ge 64, 3) := by decide +kernel
theorem jd_D_payMix_41 : decode jc_D_payMix 41 = .ok (.iload 4, 2) := by decide +kernel
theorem jd_D_payMix_43 : decode jc_D_payMix 43 = .ok (.iconst (-1), 1) := by decide +kernel
theorem jd_D_payMix_44 : decode jc_D_payMix 44 = .ok (.if_icmp .eq 58, 3) := by decide +kernel
theorem jd_D_payMix_47 : decode jc_D_payMix 47 = .ok (.aload_n 0, 1) := by decide +kernel
theorem jd_D_payMix_48 : decode jc_D_payMix 48 = .ok (.getfield 20, 3) := by decide +kernel
theorem jd_D_payMix_51 : decode jc_D_payMix 51 = .ok (.getfield 52, 3) := by decide +kernel
theorem jd_D_payMix_54 : decode jc_D_payMix 54 = .ok (.iload 4, 2) := by decide +kernel
theorem jd_D_payMix_56 : decode jc_D_payMix 56 = .ok (.dup2, 1) := by decide +kernel
theorem jd_D_payMix_57 : decode jc_D_payMix 57 = .ok (.iaload, 1) := by decide +kernel
theorem jd_D_payMix_58 : decode jc_D_payMix 58 = .ok (.iconst 1, 1) := by decide +kernel
theorem jd_D_payMix_59 : decode jc_D_payMix 59 = .ok (.isub, 1) := by decide +kernel
theorem jd_D_payMix_60 : decode jc_D_payMix 60 = .ok (.iastore, 1) := by decide +kernel
theorem jd_D_payMix_61 : decode jc_D_payMix 61 = .ok (.aload_n 0, 1) := by decide +kernel
theorem jd_D_payMix_62 : decode jc_D_payMix 62 = .ok (.getfield 11, 3) := by decide +kernel
theorem jd_D_payMix_65 : decode jc_D_payMix 65 = .ok (.iload 4, 2) := by decide +kernel
theorem jd_D_payMix_67 : decode jc_D_payMix 67 = .ok (.aaload, 1) := by decide +kernel
theorem jd_D_payMix_68 : decode jc_D_payMix 68 = .ok (.dup, 1) := by decide +kernel
theorem jd_D_payMix_69 : decode jc_D_payMix 69 = .ok (.getfield 41, 3) := by decide +kernel
theorem jd_D_payMix_72 : decode jc_D_payMix 72 = .ok (.iconst 1, 1) := by decide +kernel
theorem jd_D_payMix_73 : decode jc_D_payMix 73 = .ok (.isub, 1) := by decide +kernel
theorem jd_D_payMix_74 : decode jc_D_payMix 74 = .ok (.putfield 41, 3) := by decide +kernel
theorem jd_D_payMix_77 : decode jc_D_payMix 77 = .ok (.iload_n 3, 1) := by decide +kernel
theorem jd_D_payMix_78 : decode jc_D_payMix 78 = .ok (.aload_n 0, 1) := by decide +kernel
theorem jd_D_payMix_79 : decode jc_D_payMix 79 = .ok (.getfield 11, 3) := by decide +kernel
theorem jd_D_payMix_82 : decode jc_D_payMix 82 = .ok (.iload 4, 2) := by decide +kernel
theorem jd_D_payMix_84 : decode jc_D_payMix 84 = .ok (.aaload, 1) := by decide +kernel
theorem jd_D_payMix_85 : decode jc_D_payMix 85 = .ok (.getfield 38, 3) := by decide +kernel
theorem jd_D_payMix_88 : decode jc_D_payMix 88 = .ok (.iadd, 1) := by decide +kernel
theorem jd_D_payMix_89 : decode jc_D_payMix 89 = .ok (.istore_n 3, 1) := by decide +kernel
theorem jd_D_payMix_90 : decode jc_D_payMix 90 = .ok (.aload_n 0, 1) := by decide +kernel
theorem jd_D_payMix_91 : decode jc_D_payMix 91 = .ok (.invokevirtual 48, 3) := by decide +kernel
theorem jd_D_payMix_94 : decode jc_D_payMix 94 = .ok (.istore 4, 2) := by decide +kernel
theorem jd_D_payMix_96 : decode jc_D_payMix 96 = .ok (.iinc 5 1, 3) := by decide +kernel
theorem jd_D_payMix_99 : decode jc_D_payMix 99 = .ok (.goto (-64), 3) := by decide +kernel
theorem jd_D_payMix_102 : decode jc_D_payMix 102 = .ok (.aload_n 0, 1) := by decide +kernel
theorem jd_D_payMix_103 : decode jc_D_payMix 103 = .ok (.iload_n 1, 1) := by decide +kernel
theorem jd_D_payMix_104 : decode jc_D_payMix 104 = .ok (.putfield 31, 3) := by decide +kernel
theorem jd_D_payMix_107 : decode jc_D_payMix 107 = .ok (.aload_n 0, 1) := by decide +kernel
theorem jd_D_payMix_108 : decode jc_D_payMix 108 = .ok (.iload_n 3, 1) := by decide +kernel
theorem jd_D_payMix_109 : decode jc_D_payMix 109 = .ok (.putfield 34, 3) := by decide +kernel
theorem jd_D_payMix_112 : decode jc_D_payMix 112 = .ok (.aload_n 0, 1) := by decide +kernel
theorem jd_D_payMix_113 : decode jc_D_payMix 113 = .ok (.dup, 1) := by decide +kernel
theorem jd_D_payMix_114 : decode jc_D_payMix 114 = .ok (.getfield 28, 3) := by decide +kernel
theorem jd_D_payMix_117 : decode jc_D_payMix 117 = .ok (.iload_n 3, 1) := by decide +kernel
theorem jd_D_payMix_118 : decode jc_D_payMix 118 = .ok (.iadd, 1) := by decide +kernel
theorem jd_D_payMix_119 : decode jc_D_payMix 119 = .ok (.putfield 28, 3) := by decide +kernel
theorem jd_D_payMix_122 : decode jc_D_payMix 122 = .ok (.iload_n 3, 1) := by decide +kernel
theorem jd_D_payMix_123 : decode jc_D_payMix 123 = .ok (.ireturn, 1) := by decide +kernel
theorem jd_D_nextCassette_0 : decode jc_D_nextCassette 0 = .ok (.iconst (-1), 1) := by decide +kernel
theorem jd_D_nextCassette_1 : decode jc_D_nextCassette 1 = .ok (.istore_n 1, 1) := by decide +kernel
theorem jd_D_nextCassette_2 : decode jc_D_nextCassette 2 = .ok (.iconst 0, 1) := by decide +kernel
theorem jd_D_nextCassette_3 : decode jc_D_nextCassette 3 = .ok (.istore_n 2, 1) := by decide +kernel
theorem jd_D_nextCassette_4 : decode jc_D_nextCassette 4 = .ok (.iload_n 2, 1) := by decide +kernel
theorem jd_D_nextCassette_5 : decode jc_D_nextCassette 5 = .ok (.iconst 4, 1) := by decide +kernel
theorem jd_D_nextCassette_6 : decode jc_D_nextCassette 6 = .ok (.if_icmp .ge 59, 3) := by decide +kernel
theorem jd_D_nextCassette_9 : decode jc_D_nextCassette 9 = .ok (.aload_n 0, 1) := by decide +kernel
theorem jd_D_nextCassette_10 : decode jc_D_nextCassette 10 = .ok (.getfield 20, 3) := by decide +kernel
theorem jd_D_nextCassette_13 : decode jc_D_nextCassette 13 = .ok (.getfield 52, 3) := by decide +kernel
theorem jd_D_nextCassette_16 : decode jc_D_nextCassette 16 = .ok (.iload_n 2, 1) := by decide +kernel
theorem jd_D_nextCassette_17 : decode jc_D_nextCassette 17 = .ok (.iaload, 1) := by decide +kernel
theorem jd_D_nextCassette_18 : decode jc_D_nextCassette 18 = .ok (.ifCond .le 7, 3) := by decide +kernel
theorem jd_D_nextCassette_21 : decode jc_D_nextCassette 21 = .ok (.iconst 1, 1) := by decide +kernel
theorem jd_D_nextCassette_22 : decode jc_D_nextCassette 22 = .ok (.goto 4, 3) := by decide +kernel
theorem jd_D_nextCassette_25 : decode jc_D_nextCassette 25 = .ok (.iconst 0, 1) := by decide +kernel
theorem jd_D_nextCassette_26 : decode jc_D_nextCassette 26 = .ok (.istore_n 3, 1) := by decide +kernel
theorem jd_D_nextCassette_27 : decode jc_D_nextCassette 27 = .ok (.iload_n 3, 1) := by decide +kernel
theorem jd_D_nextCassette_28 : decode jc_D_nextCassette 28 = .ok (.ifCond .eq 31, 3) := by decide +kernel
theorem jd_D_nextCassette_31 : decode jc_D_nextCassette 31 = .ok (.iload_n 1, 1) := by decide +kernel
theorem jd_D_nextCassette_32 : decode jc_D_nextCassette 32 = .ok (.iconst (-1), 1) := by decide +kernel
theorem jd_D_nextCassette_33 : decode jc_D_nextCassette 33 = .ok (.if_icmp .eq 24, 3) := by decide +kernel
theorem jd_D_nextCassette_36 : decode jc_D_nextCassette 36 = .ok (.aload_n 0, 1) := by decide +kernel
theorem jd_D_nextCassette_37 : decode jc_D_nextCassette 37 = .ok (.getfield 11, 3) := by decide +kernel
theorem jd_D_nextCassette_40 : decode jc_D_nextCassette 40 = .ok (.iload_n 2, 1) := by decide +kernel
theorem jd_D_nextCassette_41 : decode jc_D_nextCassette 41 = .ok (.aaload, 1) := by decide +kernel
theorem jd_D_nextCassette_42 : decode jc_D_nextCassette 42 = .ok (.getfield 38, 3) := by decide +kernel
theorem jd_D_nextCassette_45 : decode jc_D_nextCassette 45 = .ok (.aload_n 0, 1) := by decide +kernel
theorem jd_D_nextCassette_46 : decode jc_D_nextCassette 46 = .ok (.getfield 11, 3) := by decide +kernel
theorem jd_D_nextCassette_49 : decode jc_D_nextCassette 49 = .ok (.iload_n 1, 1) := by decide +kernel
theorem jd_D_nextCassette_50 : decode jc_D_nextCassette 50 = .ok (.aaload, 1) := by decide +kernel
theorem jd_D_nextCassette_51 : decode jc_D_nextCassette 51 = .ok (.getfield 38, 3) := by decide +kernel
theorem jd_D_nextCassette_54 : decode jc_D_nextCassette 54 = .ok (.if_icmp .le 5, 3) := by decide +kernel
theorem jd_D_nextCassette_57 : decode jc_D_nextCassette 57 = .ok (.iload_n 2, 1) := by decide +kernel
theorem jd_D_nextCassette_58 : decode jc_D_nextCassette 58 = .ok (.istore_n 1, 1) := by decide +kernel
theorem jd_D_nextCassette_59 : decode jc_D_nextCassette 59 = .ok (.iinc 2 1, 3) := by decide +kernel
theorem jd_D_nextCassette_62 : decode jc_D_nextCassette 62 = .ok (.goto (-58), 3) := by decide +kernel
theorem jd_D_nextCassette_65 : decode jc_D_nextCassette 65 = .ok (.iload_n 1, 1) := by decide +kernel
theorem jd_D_nextCassette_66 : decode jc_D_nextCassette 66 = .ok (.ireturn, 1) := by decide +kernel
theorem jd_C_finish_0 : decode jc_C_finish 0 = .ok (.aload_n 1, 1) := by decide +kernel
theorem jd_C_finish_1 : decode jc_C_finish 1 = .ok (.iconst 3, 1) := by decide +kernel
theorem jd_C_finish_2 : decode jc_C_finish 2 = .ok (.putfield 166, 3) := by decide +kernel
theorem jd_C_finish_5 : decode jc_C_finish 5 = .ok (.aload_n 1, 1) := by decide +kernel
theorem jd_C_finish_6 : decode jc_C_finish 6 = .ok (.iload_n 2, 1) := by decide +kernel
theorem jd_C_finish_7 : decode jc_C_finish 7 = .ok (.putfield 177, 3) := by decide +kernel
theorem jd_C_finish_10 : decode jc_C_finish 10 = .ok (.iload_n 2, 1) := by decide +kernel
theorem jd_C_finish_11 : decode jc_C_finish 11 = .ok (.aload_n 1, 1) := by decide +kernel
theorem jd_C_finish_12 : decode jc_C_finish 12 = .ok (.getfield 174, 3) := by decide +kernel
theorem jd_C_finish_15 : decode jc_C_finish 15 = .ok (.if_icmp .ge 20, 3) := by decide +kernel
theorem jd_C_finish_18 : decode jc_C_finish 18 = .ok (.aload_n 0, 1) := by decide +kernel
theorem jd_C_finish_19 : decode jc_C_finish 19 = .ok (.getfield 40, 3) := by decide +kernel
theorem jd_C_finish_22 : decode jc_C_finish 22 = .ok (.aload_n 1, 1) := by decide +kernel
theorem jd_C_finish_23 : decode jc_C_finish 23 = .ok (.getfield 213, 3) := by decide +kernel
theorem jd_C_finish_26 : decode jc_C_finish 26 = .ok (.aload_n 1, 1) := by decide +kernel
theorem jd_C_finish_27 : decode jc_C_finish 27 = .ok (.getfield 174, 3) := by decide +kernel
theorem jd_C_finish_30 : decode jc_C_finish 30 = .ok (.iload_n 2, 1) := by decide +kernel
theorem jd_C_finish_31 : decode jc_C_finish 31 = .ok (.isub, 1) := by decide +kernel
theorem jd_C_finish_32 : decode jc_C_finish 32 = .ok (.invokevirtual 224, 3) := by decide +kernel
theorem jd_C_finish_35 : decode jc_C_finish 35 = .ok (.return_, 1) := by decide +kernel
theorem jd_L_mix_0 : decode jc_L_mix 0 = .ok (.aload_n 3, 1) := by decide +kernel
theorem jd_L_mix_1 : decode jc_L_mix 1 = .ok (.iconst 0, 1) := by decide +kernel
theorem jd_L_mix_2 : decode jc_L_mix 2 = .ok (.aload_n 0, 1) := by decide +kernel
theorem jd_L_mix_3 : decode jc_L_mix 3 = .ok (.iload_n 1, 1) := by decide +kernel
theorem jd_L_mix_4 : decode jc_L_mix 4 = .ok (.iload_n 2, 1) := by decide +kernel
theorem jd_L_mix_5 : decode jc_L_mix 5 = .ok (.invokevirtual 40, 3) := by decide +kernel
theorem jd_L_mix_8 : decode jc_L_mix 8 = .ok (.i2l, 1) := by decide +kernel
theorem jd_L_mix_9 : decode jc_L_mix 9 = .ok (.lastore, 1) := by decide +kernel
theorem jd_L_mix_10 : decode jc_L_mix 10 = .ok (.goto 11, 3) := by decide +kernel
theorem jd_L_mix_13 : decode jc_L_mix 13 = .ok (.astore 4, 2) := by decide +kernel
theorem jd_L_mix_15 : decode jc_L_mix 15 = .ok (.iconst 1, 1) := by decide +kernel
theorem jd_L_mix_16 : decode jc_L_mix 16 = .ok (.ireturn, 1) := by decide +kernel
theorem jd_L_mix_17 : decode jc_L_mix 17 = .ok (.astore 4, 2) := by decide +kernel
theorem jd_L_mix_19 : decode jc_L_mix 19 = .ok (.iconst 2, 1) := by decide +kernel
theorem jd_L_mix_20 : decode jc_L_mix 20 = .ok (.ireturn, 1) := by decide +kernel
theorem jd_L_mix_21 : decode jc_L_mix 21 = .ok (.iconst 0, 1) := by decide +kernel
theorem jd_L_mix_22 : decode jc_L_mix 22 = .ok (.ireturn, 1) := by decide +kernel
theorem jd_C_mix_0 : decode jc_C_mix 0 = .ok (.iload_n 1, 1) := by decide +kernel
theorem jd_C_mix_1 : decode jc_C_mix 1 = .ok (.iconst 0, 1) := by decide +kernel
theorem jd_C_mix_2 : decode jc_C_mix 2 = .ok (.iconst 3, 1) := by decide +kernel
theorem jd_C_mix_3 : decode jc_C_mix 3 = .ok (.invokestatic 58, 3) := by decide +kernel
theorem jd_C_mix_6 : decode jc_C_mix 6 = .ok (.ifCond .eq 14, 3) := by decide +kernel
theorem jd_C_mix_9 : decode jc_C_mix 9 = .ok (.iload_n 2, 1) := by decide +kernel
theorem jd_C_mix_10 : decode jc_C_mix 10 = .ok (.iconst 1, 1) := by decide +kernel
theorem jd_C_mix_11 : decode jc_C_mix 11 = .ok (.sipush 5000, 3) := by decide +kernel
theorem jd_C_mix_14 : decode jc_C_mix 14 = .ok (.invokestatic 58, 3) := by decide +kernel
theorem jd_C_mix_17 : decode jc_C_mix 17 = .ok (.ifCond .ne 11, 3) := by decide +kernel
theorem jd_C_mix_20 : decode jc_C_mix 20 = .ok (.new 63, 3) := by decide +kernel
theorem jd_C_mix_23 : decode jc_C_mix 23 = .ok (.dup, 1) := by decide +kernel
theorem jd_C_mix_24 : decode jc_C_mix 24 = .ok (.invokespecial 65, 3) := by decide +kernel
theorem jd_C_mix_27 : decode jc_C_mix 27 = .ok (.athrow, 1) := by decide +kernel
theorem jd_C_mix_28 : decode jc_C_mix 28 = .ok (.aload_n 0, 1) := by decide +kernel
theorem jd_C_mix_29 : decode jc_C_mix 29 = .ok (.getfield 26, 3) := by decide +kernel
theorem jd_C_mix_32 : decode jc_C_mix 32 = .ok (.iload_n 2, 1) := by decide +kernel
theorem jd_C_mix_33 : decode jc_C_mix 33 = .ok (.invokevirtual 109, 3) := by decide +kernel
theorem jd_C_mix_36 : decode jc_C_mix 36 = .ok (.ifCond .ne 11, 3) := by decide +kernel
theorem jd_C_mix_39 : decode jc_C_mix 39 = .ok (.new 97, 3) := by decide +kernel
theorem jd_C_mix_42 : decode jc_C_mix 42 = .ok (.dup, 1) := by decide +kernel
theorem jd_C_mix_43 : decode jc_C_mix 43 = .ok (.invokespecial 99, 3) := by decide +kernel
theorem jd_C_mix_46 : decode jc_C_mix 46 = .ok (.athrow, 1) := by decide +kernel
theorem jd_C_mix_47 : decode jc_C_mix 47 = .ok (.aload_n 0, 1) := by decide +kernel
theorem jd_C_mix_48 : decode jc_C_mix 48 = .ok (.getfield 26, 3) := by decide +kernel
theorem jd_C_mix_51 : decode jc_C_mix 51 = .ok (.getfield 126, 3) := by decide +kernel
theorem jd_C_mix_54 : decode jc_C_mix 54 = .ok (.getfield 130, 3) := by decide +kernel
theorem jd_C_mix_57 : decode jc_C_mix 57 = .ok (.iload_n 1, 1) := by decide +kernel
theorem jd_C_mix_58 : decode jc_C_mix 58 = .ok (.iaload, 1) := by decide +kernel
theorem jd_C_mix_59 : decode jc_C_mix 59 = .ok (.ireturn, 1) := by decide +kernel
theorem jd_L_line_0 : decode jc_L_line 0 = .ok (.aload_n 2, 1) := by decide +kernel
theorem jd_L_line_1 : decode jc_L_line 1 = .ok (.iconst 0, 1) := by decide +kernel
theorem jd_L_line_2 : decode jc_L_line 2 = .ok (.aload_n 0, 1) := by decide +kernel
theorem jd_L_line_3 : decode jc_L_line 3 = .ok (.iload_n 1, 1) := by decide +kernel
theorem jd_L_line_4 : decode jc_L_line 4 = .ok (.invokevirtual 44, 3) := by decide +kernel
theorem jd_L_line_7 : decode jc_L_line 7 = .ok (.i2l, 1) := by decide +kernel
theorem jd_L_line_8 : decode jc_L_line 8 = .ok (.lastore, 1) := by decide +kernel
theorem jd_L_line_9 : decode jc_L_line 9 = .ok (.goto 9, 3) := by decide +kernel
theorem jd_L_line_12 : decode jc_L_line 12 = .ok (.astore_n 3, 1) := by decide +kernel
theorem jd_L_line_13 : decode jc_L_line 13 = .ok (.iconst 1, 1) := by decide +kernel
theorem jd_L_line_14 : decode jc_L_line 14 = .ok (.ireturn, 1) := by decide +kernel
theorem jd_L_line_15 : decode jc_L_line 15 = .ok (.astore_n 3, 1) := by decide +kernel
theorem jd_L_line_16 : decode jc_L_line 16 = .ok (.iconst 2, 1) := by decide +kernel
theorem jd_L_line_17 : decode jc_L_line 17 = .ok (.ireturn, 1) := by decide +kernel
theorem jd_L_line_18 : decode jc_L_line 18 = .ok (.iconst 0, 1) := by decide +kernel
theorem jd_L_line_19 : decode jc_L_line 19 = .ok (.ireturn, 1) := by decide +kernel
theorem jd_C_line_0 : decode jc_C_line 0 = .ok (.iload_n 1, 1) := by decide +kernel
theorem jd_C_line_1 : decode jc_C_line 1 = .ok (.iconst 0, 1) := by decide +kernel
theorem jd_C_line_2 : decode jc_C_line 2 = .ok (.iconst 3, 1) := by decide +kernel
theorem jd_C_line_3 : decode jc_C_line 3 = .ok (.invokestatic 58, 3) := by decide +kernel
theorem jd_C_line_6 : decode jc_C_line 6 = .ok (.ifCond .ne 11, 3) := by decide +kernel
theorem jd_C_line_9 : decode jc_C_line 9 = .ok (.new 63, 3) := by decide +kernel
theorem jd_C_line_12 : decode jc_C_line 12 = .ok (.dup, 1) := by decide +kernel
theorem jd_C_line_13 : decode jc_C_line 13 = .ok (.invokespecial 65, 3) := by decide +kernel
theorem jd_C_line_16 : decode jc_C_line 16 = .ok (.athrow, 1) := by decide +kernel
theorem jd_C_line_17 : decode jc_C_line 17 = .ok (.aload_n 0, 1) := by decide +kernel
theorem jd_C_line_18 : decode jc_C_line 18 = .ok (.getfield 19, 3) := by decide +kernel
theorem jd_C_line_21 : decode jc_C_line 21 = .ok (.getfield 136, 3) := by decide +kernel
theorem jd_C_line_24 : decode jc_C_line 24 = .ok (.bipush 8, 2) := by decide +kernel
theorem jd_C_line_26 : decode jc_C_line 26 = .ok (.if_icmp .lt 11, 3) := by decide +kernel
theorem jd_C_line_29 : decode jc_C_line 29 = .ok (.new 70, 3) := by decide +kernel
theorem jd_C_line_32 : decode jc_C_line 32 = .ok (.dup, 1) := by decide +kernel
theorem jd_C_line_33 : decode jc_C_line 33 = .ok (.invokespecial 72, 3) := by decide +kernel
theorem jd_C_line_36 : decode jc_C_line 36 = .ok (.athrow, 1) := by decide +kernel
theorem jd_C_line_37 : decode jc_C_line 37 = .ok (.aload_n 0, 1) := by decide +kernel
theorem jd_C_line_38 : decode jc_C_line 38 = .ok (.getfield 19, 3) := by decide +kernel
theorem jd_C_line_41 : decode jc_C_line 41 = .ok (.iload_n 1, 1) := by decide +kernel
theorem jd_C_line_42 : decode jc_C_line 42 = .ok (.invokevirtual 137, 3) := by decide +kernel
theorem jd_C_line_45 : decode jc_C_line 45 = .ok (.aload_n 0, 1) := by decide +kernel
theorem jd_C_line_46 : decode jc_C_line 46 = .ok (.getfield 19, 3) := by decide +kernel
theorem jd_C_line_49 : decode jc_C_line 49 = .ok (.getfield 136, 3) := by decide +kernel
theorem jd_C_line_52 : decode jc_C_line 52 = .ok (.ireturn, 1) := by decide +kernel
theorem jd_N_add_0 : decode jc_N_add 0 = .ok (.aload_n 0, 1) := by decide +kernel
theorem jd_N_add_1 : decode jc_N_add 1 = .ok (.getfield 9, 3) := by decide +kernel
theorem jd_N_add_4 : decode jc_N_add 4 = .ok (.aload_n 0, 1) := by decide +kernel
theorem jd_N_add_5 : decode jc_N_add 5 = .ok (.getfield 15, 3) := by decide +kernel
theorem jd_N_add_8 : decode jc_N_add 8 = .ok (.iload_n 1, 1) := by decide +kernel
theorem jd_N_add_9 : decode jc_N_add 9 = .ok (.iastore, 1) := by decide +kernel
theorem jd_N_add_10 : decode jc_N_add 10 = .ok (.aload_n 0, 1) := by decide +kernel
theorem jd_N_add_11 : decode jc_N_add 11 = .ok (.dup, 1) := by decide +kernel
theorem jd_N_add_12 : decode jc_N_add 12 = .ok (.getfield 15, 3) := by decide +kernel
theorem jd_N_add_15 : decode jc_N_add 15 = .ok (.iconst 1, 1) := by decide +kernel
