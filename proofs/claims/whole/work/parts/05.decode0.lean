theorem jd_C_init_0 : decode jc_C_init 0 = .ok (.aload_n 0, 1) := by decide +kernel
theorem jd_C_init_1 : decode jc_C_init 1 = .ok (.invokespecial 1, 3) := by decide +kernel
theorem jd_C_init_4 : decode jc_C_init 4 = .ok (.aload_n 0, 1) := by decide +kernel
theorem jd_C_init_5 : decode jc_C_init 5 = .ok (.new 7, 3) := by decide +kernel
theorem jd_C_init_8 : decode jc_C_init 8 = .ok (.dup, 1) := by decide +kernel
theorem jd_C_init_9 : decode jc_C_init 9 = .ok (.invokespecial 9, 3) := by decide +kernel
theorem jd_C_init_12 : decode jc_C_init 12 = .ok (.putfield 10, 3) := by decide +kernel
theorem jd_C_init_15 : decode jc_C_init 15 = .ok (.aload_n 0, 1) := by decide +kernel
theorem jd_C_init_16 : decode jc_C_init 16 = .ok (.new 16, 3) := by decide +kernel
theorem jd_C_init_19 : decode jc_C_init 19 = .ok (.dup, 1) := by decide +kernel
theorem jd_C_init_20 : decode jc_C_init 20 = .ok (.invokespecial 18, 3) := by decide +kernel
theorem jd_C_init_23 : decode jc_C_init 23 = .ok (.putfield 19, 3) := by decide +kernel
theorem jd_C_init_26 : decode jc_C_init 26 = .ok (.aload_n 0, 1) := by decide +kernel
theorem jd_C_init_27 : decode jc_C_init 27 = .ok (.new 23, 3) := by decide +kernel
theorem jd_C_init_30 : decode jc_C_init 30 = .ok (.dup, 1) := by decide +kernel
theorem jd_C_init_31 : decode jc_C_init 31 = .ok (.invokespecial 25, 3) := by decide +kernel
theorem jd_C_init_34 : decode jc_C_init 34 = .ok (.putfield 26, 3) := by decide +kernel
theorem jd_C_init_37 : decode jc_C_init 37 = .ok (.aload_n 0, 1) := by decide +kernel
theorem jd_C_init_38 : decode jc_C_init 38 = .ok (.new 30, 3) := by decide +kernel
theorem jd_C_init_41 : decode jc_C_init 41 = .ok (.dup, 1) := by decide +kernel
theorem jd_C_init_42 : decode jc_C_init 42 = .ok (.invokespecial 32, 3) := by decide +kernel
theorem jd_C_init_45 : decode jc_C_init 45 = .ok (.putfield 33, 3) := by decide +kernel
theorem jd_C_init_48 : decode jc_C_init 48 = .ok (.aload_n 0, 1) := by decide +kernel
theorem jd_C_init_49 : decode jc_C_init 49 = .ok (.new 37, 3) := by decide +kernel
theorem jd_C_init_52 : decode jc_C_init 52 = .ok (.dup, 1) := by decide +kernel
theorem jd_C_init_53 : decode jc_C_init 53 = .ok (.invokespecial 39, 3) := by decide +kernel
theorem jd_C_init_56 : decode jc_C_init 56 = .ok (.putfield 40, 3) := by decide +kernel
theorem jd_C_init_59 : decode jc_C_init 59 = .ok (.aload_n 0, 1) := by decide +kernel
theorem jd_C_init_60 : decode jc_C_init 60 = .ok (.iconst 1, 1) := by decide +kernel
theorem jd_C_init_61 : decode jc_C_init 61 = .ok (.putfield 44, 3) := by decide +kernel
theorem jd_C_init_64 : decode jc_C_init 64 = .ok (.aload_n 0, 1) := by decide +kernel
theorem jd_C_init_65 : decode jc_C_init 65 = .ok (.iconst (-1), 1) := by decide +kernel
theorem jd_C_init_66 : decode jc_C_init 66 = .ok (.putfield 48, 3) := by decide +kernel
theorem jd_C_init_69 : decode jc_C_init 69 = .ok (.aload_n 0, 1) := by decide +kernel
theorem jd_C_init_70 : decode jc_C_init 70 = .ok (.iconst 0, 1) := by decide +kernel
theorem jd_C_init_71 : decode jc_C_init 71 = .ok (.putfield 52, 3) := by decide +kernel
theorem jd_C_init_74 : decode jc_C_init 74 = .ok (.aload_n 0, 1) := by decide +kernel
theorem jd_C_init_75 : decode jc_C_init 75 = .ok (.iconst 0, 1) := by decide +kernel
theorem jd_C_init_76 : decode jc_C_init 76 = .ok (.putfield 55, 3) := by decide +kernel
theorem jd_C_init_79 : decode jc_C_init 79 = .ok (.return_, 1) := by decide +kernel
theorem jd_H_init_0 : decode jc_H_init 0 = .ok (.aload_n 0, 1) := by decide +kernel
theorem jd_H_init_1 : decode jc_H_init 1 = .ok (.invokespecial 3, 3) := by decide +kernel
theorem jd_H_init_4 : decode jc_H_init 4 = .ok (.aload_n 0, 1) := by decide +kernel
theorem jd_H_init_5 : decode jc_H_init 5 = .ok (.bipush 8, 2) := by decide +kernel
theorem jd_H_init_7 : decode jc_H_init 7 = .ok (.anewarray 9, 3) := by decide +kernel
theorem jd_H_init_10 : decode jc_H_init 10 = .ok (.putfield 11, 3) := by decide +kernel
theorem jd_H_init_13 : decode jc_H_init 13 = .ok (.aload_n 0, 1) := by decide +kernel
theorem jd_H_init_14 : decode jc_H_init 14 = .ok (.bipush 41, 2) := by decide +kernel
theorem jd_H_init_16 : decode jc_H_init 16 = .ok (.newarray .int, 2) := by decide +kernel
theorem jd_H_init_18 : decode jc_H_init 18 = .ok (.putfield 17, 3) := by decide +kernel
theorem jd_H_init_21 : decode jc_H_init 21 = .ok (.aload_n 0, 1) := by decide +kernel
theorem jd_H_init_22 : decode jc_H_init 22 = .ok (.bipush 41, 2) := by decide +kernel
theorem jd_H_init_24 : decode jc_H_init 24 = .ok (.newarray .int, 2) := by decide +kernel
theorem jd_H_init_26 : decode jc_H_init 26 = .ok (.putfield 21, 3) := by decide +kernel
theorem jd_H_init_29 : decode jc_H_init 29 = .ok (.aload_n 0, 1) := by decide +kernel
theorem jd_H_init_30 : decode jc_H_init 30 = .ok (.bipush 41, 2) := by decide +kernel
theorem jd_H_init_32 : decode jc_H_init 32 = .ok (.newarray .boolean, 2) := by decide +kernel
theorem jd_H_init_34 : decode jc_H_init 34 = .ok (.putfield 24, 3) := by decide +kernel
theorem jd_H_init_37 : decode jc_H_init 37 = .ok (.iconst 0, 1) := by decide +kernel
theorem jd_H_init_38 : decode jc_H_init 38 = .ok (.istore_n 1, 1) := by decide +kernel
theorem jd_H_init_39 : decode jc_H_init 39 = .ok (.iload_n 1, 1) := by decide +kernel
theorem jd_H_init_40 : decode jc_H_init 40 = .ok (.bipush 8, 2) := by decide +kernel
theorem jd_H_init_42 : decode jc_H_init 42 = .ok (.if_icmp .ge 22, 3) := by decide +kernel
theorem jd_H_init_45 : decode jc_H_init 45 = .ok (.aload_n 0, 1) := by decide +kernel
theorem jd_H_init_46 : decode jc_H_init 46 = .ok (.getfield 11, 3) := by decide +kernel
theorem jd_H_init_49 : decode jc_H_init 49 = .ok (.iload_n 1, 1) := by decide +kernel
theorem jd_H_init_50 : decode jc_H_init 50 = .ok (.new 9, 3) := by decide +kernel
theorem jd_H_init_53 : decode jc_H_init 53 = .ok (.dup, 1) := by decide +kernel
theorem jd_H_init_54 : decode jc_H_init 54 = .ok (.invokespecial 28, 3) := by decide +kernel
theorem jd_H_init_57 : decode jc_H_init 57 = .ok (.aastore, 1) := by decide +kernel
theorem jd_H_init_58 : decode jc_H_init 58 = .ok (.iinc 1 1, 3) := by decide +kernel
theorem jd_H_init_61 : decode jc_H_init 61 = .ok (.goto (-22), 3) := by decide +kernel
theorem jd_H_init_64 : decode jc_H_init 64 = .ok (.return_, 1) := by decide +kernel
theorem jd_A_init_0 : decode jc_A_init 0 = .ok (.aload_n 0, 1) := by decide +kernel
theorem jd_A_init_1 : decode jc_A_init 1 = .ok (.invokespecial 3, 3) := by decide +kernel
theorem jd_A_init_4 : decode jc_A_init 4 = .ok (.aload_n 0, 1) := by decide +kernel
theorem jd_A_init_5 : decode jc_A_init 5 = .ok (.iconst 0, 1) := by decide +kernel
theorem jd_A_init_6 : decode jc_A_init 6 = .ok (.putfield 9, 3) := by decide +kernel
theorem jd_A_init_9 : decode jc_A_init 9 = .ok (.aload_n 0, 1) := by decide +kernel
theorem jd_A_init_10 : decode jc_A_init 10 = .ok (.iconst 0, 1) := by decide +kernel
theorem jd_A_init_11 : decode jc_A_init 11 = .ok (.putfield 15, 3) := by decide +kernel
theorem jd_A_init_14 : decode jc_A_init 14 = .ok (.aload_n 0, 1) := by decide +kernel
theorem jd_A_init_15 : decode jc_A_init 15 = .ok (.iconst 0, 1) := by decide +kernel
theorem jd_A_init_16 : decode jc_A_init 16 = .ok (.putfield 19, 3) := by decide +kernel
theorem jd_A_init_19 : decode jc_A_init 19 = .ok (.aload_n 0, 1) := by decide +kernel
theorem jd_A_init_20 : decode jc_A_init 20 = .ok (.iconst 0, 1) := by decide +kernel
theorem jd_A_init_21 : decode jc_A_init 21 = .ok (.putfield 22, 3) := by decide +kernel
theorem jd_A_init_24 : decode jc_A_init 24 = .ok (.aload_n 0, 1) := by decide +kernel
theorem jd_A_init_25 : decode jc_A_init 25 = .ok (.iconst 3, 1) := by decide +kernel
theorem jd_A_init_26 : decode jc_A_init 26 = .ok (.putfield 25, 3) := by decide +kernel
theorem jd_A_init_29 : decode jc_A_init 29 = .ok (.aload_n 0, 1) := by decide +kernel
theorem jd_A_init_30 : decode jc_A_init 30 = .ok (.iconst 0, 1) := by decide +kernel
theorem jd_A_init_31 : decode jc_A_init 31 = .ok (.putfield 28, 3) := by decide +kernel
theorem jd_A_init_34 : decode jc_A_init 34 = .ok (.return_, 1) := by decide +kernel
theorem jd_N_init_0 : decode jc_N_init 0 = .ok (.aload_n 0, 1) := by decide +kernel
theorem jd_N_init_1 : decode jc_N_init 1 = .ok (.invokespecial 3, 3) := by decide +kernel
theorem jd_N_init_4 : decode jc_N_init 4 = .ok (.aload_n 0, 1) := by decide +kernel
theorem jd_N_init_5 : decode jc_N_init 5 = .ok (.bipush 8, 2) := by decide +kernel
theorem jd_N_init_7 : decode jc_N_init 7 = .ok (.newarray .int, 2) := by decide +kernel
theorem jd_N_init_9 : decode jc_N_init 9 = .ok (.putfield 9, 3) := by decide +kernel
theorem jd_N_init_12 : decode jc_N_init 12 = .ok (.aload_n 0, 1) := by decide +kernel
theorem jd_N_init_13 : decode jc_N_init 13 = .ok (.iconst 0, 1) := by decide +kernel
theorem jd_N_init_14 : decode jc_N_init 14 = .ok (.putfield 15, 3) := by decide +kernel
theorem jd_N_init_17 : decode jc_N_init 17 = .ok (.return_, 1) := by decide +kernel
theorem jd_D_init_0 : decode jc_D_init 0 = .ok (.aload_n 0, 1) := by decide +kernel
theorem jd_D_init_1 : decode jc_D_init 1 = .ok (.invokespecial 3, 3) := by decide +kernel
theorem jd_D_init_4 : decode jc_D_init 4 = .ok (.aload_n 0, 1) := by decide +kernel
theorem jd_D_init_5 : decode jc_D_init 5 = .ok (.iconst 4, 1) := by decide +kernel
theorem jd_D_init_6 : decode jc_D_init 6 = .ok (.anewarray 9, 3) := by decide +kernel
theorem jd_D_init_9 : decode jc_D_init 9 = .ok (.putfield 11, 3) := by decide +kernel
theorem jd_D_init_12 : decode jc_D_init 12 = .ok (.aload_n 0, 1) := by decide +kernel
theorem jd_D_init_13 : decode jc_D_init 13 = .ok (.new 17, 3) := by decide +kernel
theorem jd_D_init_16 : decode jc_D_init 16 = .ok (.dup, 1) := by decide +kernel
theorem jd_D_init_17 : decode jc_D_init 17 = .ok (.invokespecial 19, 3) := by decide +kernel
theorem jd_D_init_20 : decode jc_D_init 20 = .ok (.putfield 20, 3) := by decide +kernel
theorem jd_D_init_23 : decode jc_D_init 23 = .ok (.aload_n 0, 1) := by decide +kernel
theorem jd_D_init_24 : decode jc_D_init 24 = .ok (.iconst (-1), 1) := by decide +kernel
theorem jd_D_init_25 : decode jc_D_init 25 = .ok (.putfield 24, 3) := by decide +kernel
theorem jd_D_init_28 : decode jc_D_init 28 = .ok (.aload_n 0, 1) := by decide +kernel
theorem jd_D_init_29 : decode jc_D_init 29 = .ok (.iconst 0, 1) := by decide +kernel
theorem jd_D_init_30 : decode jc_D_init 30 = .ok (.putfield 28, 3) := by decide +kernel
theorem jd_D_init_33 : decode jc_D_init 33 = .ok (.aload_n 0, 1) := by decide +kernel
theorem jd_D_init_34 : decode jc_D_init 34 = .ok (.iconst 0, 1) := by decide +kernel
theorem jd_D_init_35 : decode jc_D_init 35 = .ok (.putfield 31, 3) := by decide +kernel
theorem jd_D_init_38 : decode jc_D_init 38 = .ok (.aload_n 0, 1) := by decide +kernel
theorem jd_D_init_39 : decode jc_D_init 39 = .ok (.iconst 0, 1) := by decide +kernel
theorem jd_D_init_40 : decode jc_D_init 40 = .ok (.putfield 34, 3) := by decide +kernel
theorem jd_D_init_43 : decode jc_D_init 43 = .ok (.iconst 0, 1) := by decide +kernel
theorem jd_D_init_44 : decode jc_D_init 44 = .ok (.istore_n 1, 1) := by decide +kernel
theorem jd_D_init_45 : decode jc_D_init 45 = .ok (.iload_n 1, 1) := by decide +kernel
theorem jd_D_init_46 : decode jc_D_init 46 = .ok (.iconst 4, 1) := by decide +kernel
theorem jd_D_init_47 : decode jc_D_init 47 = .ok (.if_icmp .ge 22, 3) := by decide +kernel
theorem jd_D_init_50 : decode jc_D_init 50 = .ok (.aload_n 0, 1) := by decide +kernel
theorem jd_D_init_51 : decode jc_D_init 51 = .ok (.getfield 11, 3) := by decide +kernel
theorem jd_D_init_54 : decode jc_D_init 54 = .ok (.iload_n 1, 1) := by decide +kernel
theorem jd_D_init_55 : decode jc_D_init 55 = .ok (.new 9, 3) := by decide +kernel
theorem jd_D_init_58 : decode jc_D_init 58 = .ok (.dup, 1) := by decide +kernel
theorem jd_D_init_59 : decode jc_D_init 59 = .ok (.invokespecial 37, 3) := by decide +kernel
theorem jd_D_init_62 : decode jc_D_init 62 = .ok (.aastore, 1) := by decide +kernel
theorem jd_D_init_63 : decode jc_D_init 63 = .ok (.iinc 1 1, 3) := by decide +kernel
theorem jd_D_init_66 : decode jc_D_init 66 = .ok (.goto (-21), 3) := by decide +kernel
theorem jd_D_init_69 : decode jc_D_init 69 = .ok (.return_, 1) := by decide +kernel
theorem jd_X_init_0 : decode jc_X_init 0 = .ok (.aload_n 0, 1) := by decide +kernel
theorem jd_X_init_1 : decode jc_X_init 1 = .ok (.invokespecial 3, 3) := by decide +kernel
theorem jd_X_init_4 : decode jc_X_init 4 = .ok (.aload_n 0, 1) := by decide +kernel
theorem jd_X_init_5 : decode jc_X_init 5 = .ok (.iconst 4, 1) := by decide +kernel
theorem jd_X_init_6 : decode jc_X_init 6 = .ok (.newarray .int, 2) := by decide +kernel
theorem jd_X_init_8 : decode jc_X_init 8 = .ok (.putfield 9, 3) := by decide +kernel
theorem jd_X_init_11 : decode jc_X_init 11 = .ok (.aload_n 0, 1) := by decide +kernel
theorem jd_X_init_12 : decode jc_X_init 12 = .ok (.sipush 5001, 3) := by decide +kernel
theorem jd_X_init_15 : decode jc_X_init 15 = .ok (.newarray .int, 2) := by decide +kernel
theorem jd_X_init_17 : decode jc_X_init 17 = .ok (.putfield 15, 3) := by decide +kernel
theorem jd_X_init_20 : decode jc_X_init 20 = .ok (.return_, 1) := by decide +kernel
theorem jd_K_init_0 : decode jc_K_init 0 = .ok (.aload_n 0, 1) := by decide +kernel
theorem jd_K_init_1 : decode jc_K_init 1 = .ok (.invokespecial 1, 3) := by decide +kernel
theorem jd_K_init_4 : decode jc_K_init 4 = .ok (.aload_n 0, 1) := by decide +kernel
theorem jd_K_init_5 : decode jc_K_init 5 = .ok (.iconst 1, 1) := by decide +kernel
theorem jd_K_init_6 : decode jc_K_init 6 = .ok (.putfield 7, 3) := by decide +kernel
theorem jd_K_init_9 : decode jc_K_init 9 = .ok (.aload_n 0, 1) := by decide +kernel
theorem jd_K_init_10 : decode jc_K_init 10 = .ok (.iconst 0, 1) := by decide +kernel
theorem jd_K_init_11 : decode jc_K_init 11 = .ok (.putfield 13, 3) := by decide +kernel
theorem jd_K_init_14 : decode jc_K_init 14 = .ok (.return_, 1) := by decide +kernel
theorem jd_J_init_0 : decode jc_J_init 0 = .ok (.aload_n 0, 1) := by decide +kernel
theorem jd_J_init_1 : decode jc_J_init 1 = .ok (.invokespecial 3, 3) := by decide +kernel
theorem jd_J_init_4 : decode jc_J_init 4 = .ok (.aload_n 0, 1) := by decide +kernel
theorem jd_J_init_5 : decode jc_J_init 5 = .ok (.bipush 40, 2) := by decide +kernel
theorem jd_J_init_7 : decode jc_J_init 7 = .ok (.anewarray 9, 3) := by decide +kernel
theorem jd_J_init_10 : decode jc_J_init 10 = .ok (.putfield 11, 3) := by decide +kernel
theorem jd_J_init_13 : decode jc_J_init 13 = .ok (.aload_n 0, 1) := by decide +kernel
theorem jd_J_init_14 : decode jc_J_init 14 = .ok (.iconst 0, 1) := by decide +kernel
theorem jd_J_init_15 : decode jc_J_init 15 = .ok (.putfield 17, 3) := by decide +kernel
theorem jd_J_init_18 : decode jc_J_init 18 = .ok (.iconst 0, 1) := by decide +kernel
theorem jd_J_init_19 : decode jc_J_init 19 = .ok (.istore_n 1, 1) := by decide +kernel
theorem jd_J_init_20 : decode jc_J_init 20 = .ok (.iload_n 1, 1) := by decide +kernel
theorem jd_J_init_21 : decode jc_J_init 21 = .ok (.bipush 40, 2) := by decide +kernel
theorem jd_J_init_23 : decode jc_J_init 23 = .ok (.if_icmp .ge 25, 3) := by decide +kernel
theorem jd_J_init_26 : decode jc_J_init 26 = .ok (.aload_n 0, 1) := by decide +kernel
theorem jd_J_init_27 : decode jc_J_init 27 = .ok (.getfield 11, 3) := by decide +kernel
theorem jd_J_init_30 : decode jc_J_init 30 = .ok (.iload_n 1, 1) := by decide +kernel
theorem jd_J_init_31 : decode jc_J_init 31 = .ok (.new 9, 3) := by decide +kernel
theorem jd_J_init_34 : decode jc_J_init 34 = .ok (.dup, 1) := by decide +kernel
theorem jd_J_init_35 : decode jc_J_init 35 = .ok (.iload_n 1, 1) := by decide +kernel
theorem jd_J_init_36 : decode jc_J_init 36 = .ok (.iconst 1, 1) := by decide +kernel
theorem jd_J_init_37 : decode jc_J_init 37 = .ok (.iadd, 1) := by decide +kernel
theorem jd_J_init_38 : decode jc_J_init 38 = .ok (.invokespecial 21, 3) := by decide +kernel
theorem jd_J_init_41 : decode jc_J_init 41 = .ok (.aastore, 1) := by decide +kernel
theorem jd_J_init_42 : decode jc_J_init 42 = .ok (.iinc 1 1, 3) := by decide +kernel
theorem jd_J_init_45 : decode jc_J_init 45 = .ok (.goto (-25), 3) := by decide +kernel
theorem jd_J_init_48 : decode jc_J_init 48 = .ok (.return_, 1) := by decide +kernel
theorem jd_E_init_0 : decode jc_E_init 0 = .ok (.aload_n 0, 1) := by decide +kernel
theorem jd_E_init_1 : decode jc_E_init 1 = .ok (.invokespecial 1, 3) := by decide +kernel
theorem jd_E_init_4 : decode jc_E_init 4 = .ok (.aload_n 0, 1) := by decide +kernel
theorem jd_E_init_5 : decode jc_E_init 5 = .ok (.iconst 0, 1) := by decide +kernel
theorem jd_E_init_6 : decode jc_E_init 6 = .ok (.putfield 7, 3) := by decide +kernel
theorem jd_E_init_9 : decode jc_E_init 9 = .ok (.aload_n 0, 1) := by decide +kernel
theorem jd_E_init_10 : decode jc_E_init 10 = .ok (.iconst 0, 1) := by decide +kernel
theorem jd_E_init_11 : decode jc_E_init 11 = .ok (.putfield 13, 3) := by decide +kernel
theorem jd_E_init_14 : decode jc_E_init 14 = .ok (.aload_n 0, 1) := by decide +kernel
theorem jd_E_init_15 : decode jc_E_init 15 = .ok (.iconst 0, 1) := by decide +kernel
theorem jd_E_init_16 : decode jc_E_init 16 = .ok (.putfield 16, 3) := by decide +kernel
theorem jd_E_init_19 : decode jc_E_init 19 = .ok (.aload_n 0, 1) := by decide +kernel
theorem jd_E_init_20 : decode jc_E_init 20 = .ok (.iconst 0, 1) := by decide +kernel
theorem jd_E_init_21 : decode jc_E_init 21 = .ok (.putfield 19, 3) := by decide +kernel
theorem jd_E_init_24 : decode jc_E_init 24 = .ok (.aload_n 0, 1) := by decide +kernel
theorem jd_E_init_25 : decode jc_E_init 25 = .ok (.iload_n 1, 1) := by decide +kernel
theorem jd_E_init_26 : decode jc_E_init 26 = .ok (.putfield 22, 3) := by decide +kernel
theorem jd_E_init_29 : decode jc_E_init 29 = .ok (.return_, 1) := by decide +kernel
theorem jd_R_init_0 : decode jc_R_init 0 = .ok (.aload_n 0, 1) := by decide +kernel
theorem jd_R_init_1 : decode jc_R_init 1 = .ok (.invokespecial 3, 3) := by decide +kernel
theorem jd_R_init_4 : decode jc_R_init 4 = .ok (.aload_n 0, 1) := by decide +kernel
theorem jd_R_init_5 : decode jc_R_init 5 = .ok (.bipush 40, 2) := by decide +kernel
theorem jd_R_init_7 : decode jc_R_init 7 = .ok (.newarray .int, 2) := by decide +kernel
theorem jd_R_init_9 : decode jc_R_init 9 = .ok (.putfield 9, 3) := by decide +kernel
theorem jd_R_init_12 : decode jc_R_init 12 = .ok (.aload_n 0, 1) := by decide +kernel
theorem jd_R_init_13 : decode jc_R_init 13 = .ok (.bipush 40, 2) := by decide +kernel
theorem jd_R_init_15 : decode jc_R_init 15 = .ok (.newarray .int, 2) := by decide +kernel
theorem jd_R_init_17 : decode jc_R_init 17 = .ok (.putfield 15, 3) := by decide +kernel
theorem jd_R_init_20 : decode jc_R_init 20 = .ok (.aload_n 0, 1) := by decide +kernel
theorem jd_R_init_21 : decode jc_R_init 21 = .ok (.iconst 0, 1) := by decide +kernel
theorem jd_R_init_22 : decode jc_R_init 22 = .ok (.putfield 18, 3) := by decide +kernel
theorem jd_R_init_25 : decode jc_R_init 25 = .ok (.return_, 1) := by decide +kernel
theorem jd_C_difference_0 : decode jc_C_difference 0 = .ok (.aload_n 0, 1) := by decide +kernel
theorem jd_C_difference_1 : decode jc_C_difference 1 = .ok (.getfield 10, 3) := by decide +kernel
theorem jd_C_difference_4 : decode jc_C_difference 4 = .ok (.invokevirtual 192, 3) := by decide +kernel
theorem jd_C_difference_7 : decode jc_C_difference 7 = .ok (.aload_n 0, 1) := by decide +kernel
theorem jd_C_difference_8 : decode jc_C_difference 8 = .ok (.getfield 26, 3) := by decide +kernel
theorem jd_C_difference_11 : decode jc_C_difference 11 = .ok (.getfield 195, 3) := by decide +kernel
theorem jd_C_difference_14 : decode jc_C_difference 14 = .ok (.isub, 1) := by decide +kernel
theorem jd_C_difference_15 : decode jc_C_difference 15 = .ok (.ireturn, 1) := by decide +kernel
theorem jd_H_takenFromBalances_0 : decode jc_H_takenFromBalances 0 = .ok (.iconst 0, 1) := by decide +kernel
theorem jd_H_takenFromBalances_1 : decode jc_H_takenFromBalances 1 = .ok (.istore_n 1, 1) := by decide +kernel
theorem jd_H_takenFromBalances_2 : decode jc_H_takenFromBalances 2 = .ok (.aload_n 0, 1) := by decide +kernel
theorem jd_H_takenFromBalances_3 : decode jc_H_takenFromBalances 3 = .ok (.getfield 11, 3) := by decide +kernel
theorem jd_H_takenFromBalances_6 : decode jc_H_takenFromBalances 6 = .ok (.astore_n 2, 1) := by decide +kernel
theorem jd_H_takenFromBalances_7 : decode jc_H_takenFromBalances 7 = .ok (.aload_n 2, 1) := by decide +kernel
theorem jd_H_takenFromBalances_8 : decode jc_H_takenFromBalances 8 = .ok (.arraylength, 1) := by decide +kernel
theorem jd_H_takenFromBalances_9 : decode jc_H_takenFromBalances 9 = .ok (.istore_n 3, 1) := by decide +kernel
theorem jd_H_takenFromBalances_10 : decode jc_H_takenFromBalances 10 = .ok (.iconst 0, 1) := by decide +kernel
theorem jd_H_takenFromBalances_11 : decode jc_H_takenFromBalances 11 = .ok (.istore 4, 2) := by decide +kernel
theorem jd_H_takenFromBalances_13 : decode jc_H_takenFromBalances 13 = .ok (.iload 4, 2) := by decide +kernel
theorem jd_H_takenFromBalances_15 : decode jc_H_takenFromBalances 15 = .ok (.iload_n 3, 1) := by decide +kernel
theorem jd_H_takenFromBalances_16 : decode jc_H_takenFromBalances 16 = .ok (.if_icmp .ge 29, 3) := by decide +kernel
theorem jd_H_takenFromBalances_19 : decode jc_H_takenFromBalances 19 = .ok (.aload_n 2, 1) := by decide +kernel
theorem jd_H_takenFromBalances_20 : decode jc_H_takenFromBalances 20 = .ok (.iload 4, 2) := by decide +kernel
theorem jd_H_takenFromBalances_22 : decode jc_H_takenFromBalances 22 = .ok (.aaload, 1) := by decide +kernel
theorem jd_H_takenFromBalances_23 : decode jc_H_takenFromBalances 23 = .ok (.astore 5, 2) := by decide +kernel
theorem jd_H_takenFromBalances_25 : decode jc_H_takenFromBalances 25 = .ok (.iload_n 1, 1) := by decide +kernel
theorem jd_H_takenFromBalances_26 : decode jc_H_takenFromBalances 26 = .ok (.aload 5, 2) := by decide +kernel
theorem jd_H_takenFromBalances_28 : decode jc_H_takenFromBalances 28 = .ok (.getfield 41, 3) := by decide +kernel
theorem jd_H_takenFromBalances_31 : decode jc_H_takenFromBalances 31 = .ok (.aload 5, 2) := by decide +kernel
theorem jd_H_takenFromBalances_33 : decode jc_H_takenFromBalances 33 = .ok (.getfield 44, 3) := by decide +kernel
theorem jd_H_takenFromBalances_36 : decode jc_H_takenFromBalances 36 = .ok (.isub, 1) := by decide +kernel
theorem jd_H_takenFromBalances_37 : decode jc_H_takenFromBalances 37 = .ok (.iadd, 1) := by decide +kernel
theorem jd_H_takenFromBalances_38 : decode jc_H_takenFromBalances 38 = .ok (.istore_n 1, 1) := by decide +kernel
theorem jd_H_takenFromBalances_39 : decode jc_H_takenFromBalances 39 = .ok (.iinc 4 1, 3) := by decide +kernel
theorem jd_H_takenFromBalances_42 : decode jc_H_takenFromBalances 42 = .ok (.goto (-29), 3) := by decide +kernel
theorem jd_H_takenFromBalances_45 : decode jc_H_takenFromBalances 45 = .ok (.iload_n 1, 1) := by decide +kernel
theorem jd_H_takenFromBalances_46 : decode jc_H_takenFromBalances 46 = .ok (.ireturn, 1) := by decide +kernel
theorem jd_L_open_0 : decode jc_L_open 0 = .ok (.aload 4, 2) := by decide +kernel
theorem jd_L_open_2 : decode jc_L_open 2 = .ok (.iconst 0, 1) := by decide +kernel
theorem jd_L_open_3 : decode jc_L_open 3 = .ok (.aload_n 0, 1) := by decide +kernel
theorem jd_L_open_4 : decode jc_L_open 4 = .ok (.iload_n 1, 1) := by decide +kernel
theorem jd_L_open_5 : decode jc_L_open 5 = .ok (.iload_n 2, 1) := by decide +kernel
theorem jd_L_open_6 : decode jc_L_open 6 = .ok (.iload_n 3, 1) := by decide +kernel
theorem jd_L_open_7 : decode jc_L_open 7 = .ok (.invokevirtual 7, 3) := by decide +kernel
theorem jd_L_open_10 : decode jc_L_open 10 = .ok (.i2l, 1) := by decide +kernel
theorem jd_L_open_11 : decode jc_L_open 11 = .ok (.lastore, 1) := by decide +kernel
theorem jd_L_open_12 : decode jc_L_open 12 = .ok (.goto 11, 3) := by decide +kernel
theorem jd_L_open_15 : decode jc_L_open 15 = .ok (.astore 5, 2) := by decide +kernel
theorem jd_L_open_17 : decode jc_L_open 17 = .ok (.iconst 1, 1) := by decide +kernel
theorem jd_L_open_18 : decode jc_L_open 18 = .ok (.ireturn, 1) := by decide +kernel
theorem jd_L_open_19 : decode jc_L_open 19 = .ok (.astore 5, 2) := by decide +kernel
theorem jd_L_open_21 : decode jc_L_open 21 = .ok (.iconst 2, 1) := by decide +kernel
theorem jd_L_open_22 : decode jc_L_open 22 = .ok (.ireturn, 1) := by decide +kernel
theorem jd_L_open_23 : decode jc_L_open 23 = .ok (.iconst 0, 1) := by decide +kernel
theorem jd_L_open_24 : decode jc_L_open 24 = .ok (.ireturn, 1) := by decide +kernel
theorem jd_C_open_0 : decode jc_C_open 0 = .ok (.iload_n 1, 1) := by decide +kernel
theorem jd_C_open_1 : decode jc_C_open 1 = .ok (.iconst 0, 1) := by decide +kernel
theorem jd_C_open_2 : decode jc_C_open 2 = .ok (.bipush 7, 2) := by decide +kernel
theorem jd_C_open_4 : decode jc_C_open 4 = .ok (.invokestatic 58, 3) := by decide +kernel
theorem jd_C_open_7 : decode jc_C_open 7 = .ok (.ifCond .eq 24, 3) := by decide +kernel
theorem jd_C_open_10 : decode jc_C_open 10 = .ok (.iload_n 2, 1) := by decide +kernel
theorem jd_C_open_11 : decode jc_C_open 11 = .ok (.iconst 0, 1) := by decide +kernel
theorem jd_C_open_12 : decode jc_C_open 12 = .ok (.sipush 9999, 3) := by decide +kernel
theorem jd_C_open_15 : decode jc_C_open 15 = .ok (.invokestatic 58, 3) := by decide +kernel
theorem jd_C_open_18 : decode jc_C_open 18 = .ok (.ifCond .eq 13, 3) := by decide +kernel
theorem jd_C_open_21 : decode jc_C_open 21 = .ok (.iload_n 3, 1) := by decide +kernel
theorem jd_C_open_22 : decode jc_C_open 22 = .ok (.iconst 0, 1) := by decide +kernel
theorem jd_C_open_23 : decode jc_C_open 23 = .ok (.ldc 62, 2) := by decide +kernel
theorem jd_C_open_25 : decode jc_C_open 25 = .ok (.invokestatic 58, 3) := by decide +kernel
theorem jd_C_open_28 : decode jc_C_open 28 = .ok (.ifCond .ne 11, 3) := by decide +kernel
theorem jd_C_open_31 : decode jc_C_open 31 = .ok (.new 63, 3) := by decide +kernel
theorem jd_C_open_34 : decode jc_C_open 34 = .ok (.dup, 1) := by decide +kernel
theorem jd_C_open_35 : decode jc_C_open 35 = .ok (.invokespecial 65, 3) := by decide +kernel
theorem jd_C_open_38 : decode jc_C_open 38 = .ok (.athrow, 1) := by decide +kernel
theorem jd_C_open_39 : decode jc_C_open 39 = .ok (.aload_n 0, 1) := by decide +kernel
theorem jd_C_open_40 : decode jc_C_open 40 = .ok (.getfield 10, 3) := by decide +kernel
theorem jd_C_open_43 : decode jc_C_open 43 = .ok (.iload_n 1, 1) := by decide +kernel
theorem jd_C_open_44 : decode jc_C_open 44 = .ok (.invokevirtual 66, 3) := by decide +kernel
theorem jd_C_open_47 : decode jc_C_open 47 = .ok (.ifCond .eq 11, 3) := by decide +kernel
theorem jd_C_open_50 : decode jc_C_open 50 = .ok (.new 70, 3) := by decide +kernel
theorem jd_C_open_53 : decode jc_C_open 53 = .ok (.dup, 1) := by decide +kernel
theorem jd_C_open_54 : decode jc_C_open 54 = .ok (.invokespecial 72, 3) := by decide +kernel
theorem jd_C_open_57 : decode jc_C_open 57 = .ok (.athrow, 1) := by decide +kernel
theorem jd_C_open_58 : decode jc_C_open 58 = .ok (.aload_n 0, 1) := by decide +kernel
theorem jd_C_open_59 : decode jc_C_open 59 = .ok (.getfield 10, 3) := by decide +kernel
theorem jd_C_open_62 : decode jc_C_open 62 = .ok (.iload_n 1, 1) := by decide +kernel
theorem jd_C_open_63 : decode jc_C_open 63 = .ok (.iload_n 2, 1) := by decide +kernel
theorem jd_C_open_64 : decode jc_C_open 64 = .ok (.iload_n 3, 1) := by decide +kernel
theorem jd_C_open_65 : decode jc_C_open 65 = .ok (.invokevirtual 73, 3) := by decide +kernel
theorem jd_C_open_68 : decode jc_C_open 68 = .ok (.aload_n 0, 1) := by decide +kernel
theorem jd_C_open_69 : decode jc_C_open 69 = .ok (.getfield 10, 3) := by decide +kernel
theorem jd_C_open_72 : decode jc_C_open 72 = .ok (.invokevirtual 77, 3) := by decide +kernel
theorem jd_C_open_75 : decode jc_C_open 75 = .ok (.ireturn, 1) := by decide +kernel
theorem jd_C_isWithin_0 : decode jc_C_isWithin 0 = .ok (.iload_n 0, 1) := by decide +kernel
theorem jd_C_isWithin_1 : decode jc_C_isWithin 1 = .ok (.iload_n 1, 1) := by decide +kernel
theorem jd_C_isWithin_2 : decode jc_C_isWithin 2 = .ok (.if_icmp .lt 12, 3) := by decide +kernel
theorem jd_C_isWithin_5 : decode jc_C_isWithin 5 = .ok (.iload_n 0, 1) := by decide +kernel
theorem jd_C_isWithin_6 : decode jc_C_isWithin 6 = .ok (.iload_n 2, 1) := by decide +kernel
theorem jd_C_isWithin_7 : decode jc_C_isWithin 7 = .ok (.if_icmp .gt 7, 3) := by decide +kernel
theorem jd_C_isWithin_10 : decode jc_C_isWithin 10 = .ok (.iconst 1, 1) := by decide +kernel
theorem jd_C_isWithin_11 : decode jc_C_isWithin 11 = .ok (.goto 4, 3) := by decide +kernel
theorem jd_C_isWithin_14 : decode jc_C_isWithin 14 = .ok (.iconst 0, 1) := by decide +kernel
theorem jd_C_isWithin_15 : decode jc_C_isWithin 15 = .ok (.ireturn, 1) := by decide +kernel
theorem jd_H_isOpen_0 : decode jc_H_isOpen 0 = .ok (.iload_n 1, 1) := by decide +kernel
theorem jd_H_isOpen_1 : decode jc_H_isOpen 1 = .ok (.iconst 0, 1) := by decide +kernel
theorem jd_H_isOpen_2 : decode jc_H_isOpen 2 = .ok (.bipush 7, 2) := by decide +kernel
theorem jd_H_isOpen_4 : decode jc_H_isOpen 4 = .ok (.invokestatic 29, 3) := by decide +kernel
theorem jd_H_isOpen_7 : decode jc_H_isOpen 7 = .ok (.ifCond .eq 19, 3) := by decide +kernel
theorem jd_H_isOpen_10 : decode jc_H_isOpen 10 = .ok (.aload_n 0, 1) := by decide +kernel
theorem jd_H_isOpen_11 : decode jc_H_isOpen 11 = .ok (.getfield 11, 3) := by decide +kernel
theorem jd_H_isOpen_14 : decode jc_H_isOpen 14 = .ok (.iload_n 1, 1) := by decide +kernel
theorem jd_H_isOpen_15 : decode jc_H_isOpen 15 = .ok (.aaload, 1) := by decide +kernel
theorem jd_H_isOpen_16 : decode jc_H_isOpen 16 = .ok (.getfield 33, 3) := by decide +kernel
theorem jd_H_isOpen_19 : decode jc_H_isOpen 19 = .ok (.ifCond .eq 7, 3) := by decide +kernel
theorem jd_H_isOpen_22 : decode jc_H_isOpen 22 = .ok (.iconst 1, 1) := by decide +kernel
theorem jd_H_isOpen_23 : decode jc_H_isOpen 23 = .ok (.goto 4, 3) := by decide +kernel
theorem jd_H_isOpen_26 : decode jc_H_isOpen 26 = .ok (.iconst 0, 1) := by decide +kernel
theorem jd_H_isOpen_27 : decode jc_H_isOpen 27 = .ok (.ireturn, 1) := by decide +kernel
theorem jd_H_openAccount_0 : decode jc_H_openAccount 0 = .ok (.aload_n 0, 1) := by decide +kernel
theorem jd_H_openAccount_1 : decode jc_H_openAccount 1 = .ok (.getfield 11, 3) := by decide +kernel
theorem jd_H_openAccount_4 : decode jc_H_openAccount 4 = .ok (.iload_n 1, 1) := by decide +kernel
theorem jd_H_openAccount_5 : decode jc_H_openAccount 5 = .ok (.aaload, 1) := by decide +kernel
theorem jd_H_openAccount_6 : decode jc_H_openAccount 6 = .ok (.astore 4, 2) := by decide +kernel
theorem jd_H_openAccount_8 : decode jc_H_openAccount 8 = .ok (.aload 4, 2) := by decide +kernel
theorem jd_H_openAccount_10 : decode jc_H_openAccount 10 = .ok (.iconst 1, 1) := by decide +kernel
theorem jd_H_openAccount_11 : decode jc_H_openAccount 11 = .ok (.putfield 33, 3) := by decide +kernel
theorem jd_H_openAccount_14 : decode jc_H_openAccount 14 = .ok (.aload 4, 2) := by decide +kernel
theorem jd_H_openAccount_16 : decode jc_H_openAccount 16 = .ok (.iload_n 2, 1) := by decide +kernel
theorem jd_H_openAccount_17 : decode jc_H_openAccount 17 = .ok (.putfield 37, 3) := by decide +kernel
theorem jd_H_openAccount_20 : decode jc_H_openAccount 20 = .ok (.aload 4, 2) := by decide +kernel
theorem jd_H_openAccount_22 : decode jc_H_openAccount 22 = .ok (.iload_n 3, 1) := by decide +kernel
theorem jd_H_openAccount_23 : decode jc_H_openAccount 23 = .ok (.putfield 41, 3) := by decide +kernel
theorem jd_H_openAccount_26 : decode jc_H_openAccount 26 = .ok (.aload 4, 2) := by decide +kernel
theorem jd_H_openAccount_28 : decode jc_H_openAccount 28 = .ok (.iload_n 3, 1) := by decide +kernel
theorem jd_H_openAccount_29 : decode jc_H_openAccount 29 = .ok (.putfield 44, 3) := by decide +kernel
theorem jd_H_openAccount_32 : decode jc_H_openAccount 32 = .ok (.return_, 1) := by decide +kernel
theorem jd_H_openAccounts_0 : decode jc_H_openAccounts 0 = .ok (.iconst 0, 1) := by decide +kernel
theorem jd_H_openAccounts_1 : decode jc_H_openAccounts 1 = .ok (.istore_n 1, 1) := by decide +kernel
theorem jd_H_openAccounts_2 : decode jc_H_openAccounts 2 = .ok (.aload_n 0, 1) := by decide +kernel
theorem jd_H_openAccounts_3 : decode jc_H_openAccounts 3 = .ok (.getfield 11, 3) := by decide +kernel
theorem jd_H_openAccounts_6 : decode jc_H_openAccounts 6 = .ok (.astore_n 2, 1) := by decide +kernel
theorem jd_H_openAccounts_7 : decode jc_H_openAccounts 7 = .ok (.aload_n 2, 1) := by decide +kernel
theorem jd_H_openAccounts_8 : decode jc_H_openAccounts 8 = .ok (.arraylength, 1) := by decide +kernel
theorem jd_H_openAccounts_9 : decode jc_H_openAccounts 9 = .ok (.istore_n 3, 1) := by decide +kernel
theorem jd_H_openAccounts_10 : decode jc_H_openAccounts 10 = .ok (.iconst 0, 1) := by decide +kernel
theorem jd_H_openAccounts_11 : decode jc_H_openAccounts 11 = .ok (.istore 4, 2) := by decide +kernel
theorem jd_H_openAccounts_13 : decode jc_H_openAccounts 13 = .ok (.iload 4, 2) := by decide +kernel
theorem jd_H_openAccounts_15 : decode jc_H_openAccounts 15 = .ok (.iload_n 3, 1) := by decide +kernel
theorem jd_H_openAccounts_16 : decode jc_H_openAccounts 16 = .ok (.if_icmp .ge 31, 3) := by decide +kernel
theorem jd_H_openAccounts_19 : decode jc_H_openAccounts 19 = .ok (.aload_n 2, 1) := by decide +kernel
theorem jd_H_openAccounts_20 : decode jc_H_openAccounts 20 = .ok (.iload 4, 2) := by decide +kernel
theorem jd_H_openAccounts_22 : decode jc_H_openAccounts 22 = .ok (.aaload, 1) := by decide +kernel
theorem jd_H_openAccounts_23 : decode jc_H_openAccounts 23 = .ok (.astore 5, 2) := by decide +kernel
theorem jd_H_openAccounts_25 : decode jc_H_openAccounts 25 = .ok (.iload_n 1, 1) := by decide +kernel
theorem jd_H_openAccounts_26 : decode jc_H_openAccounts 26 = .ok (.aload 5, 2) := by decide +kernel
theorem jd_H_openAccounts_28 : decode jc_H_openAccounts 28 = .ok (.getfield 33, 3) := by decide +kernel
theorem jd_H_openAccounts_31 : decode jc_H_openAccounts 31 = .ok (.ifCond .eq 7, 3) := by decide +kernel
theorem jd_H_openAccounts_34 : decode jc_H_openAccounts 34 = .ok (.iconst 1, 1) := by decide +kernel
theorem jd_H_openAccounts_35 : decode jc_H_openAccounts 35 = .ok (.goto 4, 3) := by decide +kernel
theorem jd_H_openAccounts_38 : decode jc_H_openAccounts 38 = .ok (.iconst 0, 1) := by decide +kernel
theorem jd_H_openAccounts_39 : decode jc_H_openAccounts 39 = .ok (.iadd, 1) := by decide +kernel
theorem jd_H_openAccounts_40 : decode jc_H_openAccounts 40 = .ok (.istore_n 1, 1) := by decide +kernel
theorem jd_H_openAccounts_41 : decode jc_H_openAccounts 41 = .ok (.iinc 4 1, 3) := by decide +kernel
theorem jd_H_openAccounts_44 : decode jc_H_openAccounts 44 = .ok (.goto (-31), 3) := by decide +kernel
theorem jd_H_openAccounts_47 : decode jc_H_openAccounts 47 = .ok (.iload_n 1, 1) := by decide +kernel
theorem jd_H_openAccounts_48 : decode jc_H_openAccounts 48 = .ok (.ireturn, 1) := by decide +kernel
theorem jd_L_load_0 : decode jc_L_load 0 = .ok (.aload 4, 2) := by decide +kernel
theorem jd_L_load_2 : decode jc_L_load 2 = .ok (.iconst 0, 1) := by decide +kernel
theorem jd_L_load_3 : decode jc_L_load 3 = .ok (.aload_n 0, 1) := by decide +kernel
theorem jd_L_load_4 : decode jc_L_load 4 = .ok (.iload_n 1, 1) := by decide +kernel
theorem jd_L_load_5 : decode jc_L_load 5 = .ok (.iload_n 2, 1) := by decide +kernel
theorem jd_L_load_6 : decode jc_L_load 6 = .ok (.iload_n 3, 1) := by decide +kernel
theorem jd_L_load_7 : decode jc_L_load 7 = .ok (.invokevirtual 17, 3) := by decide +kernel
theorem jd_L_load_10 : decode jc_L_load 10 = .ok (.i2l, 1) := by decide +kernel
theorem jd_L_load_11 : decode jc_L_load 11 = .ok (.lastore, 1) := by decide +kernel
theorem jd_L_load_12 : decode jc_L_load 12 = .ok (.goto 11, 3) := by decide +kernel
theorem jd_L_load_15 : decode jc_L_load 15 = .ok (.astore 5, 2) := by decide +kernel
theorem jd_L_load_17 : decode jc_L_load 17 = .ok (.iconst 1, 1) := by decide +kernel
theorem jd_L_load_18 : decode jc_L_load 18 = .ok (.ireturn, 1) := by decide +kernel
theorem jd_L_load_19 : decode jc_L_load 19 = .ok (.astore 5, 2) := by decide +kernel
theorem jd_L_load_21 : decode jc_L_load 21 = .ok (.iconst 2, 1) := by decide +kernel
theorem jd_L_load_22 : decode jc_L_load 22 = .ok (.ireturn, 1) := by decide +kernel
theorem jd_L_load_23 : decode jc_L_load 23 = .ok (.iconst 0, 1) := by decide +kernel
theorem jd_L_load_24 : decode jc_L_load 24 = .ok (.ireturn, 1) := by decide +kernel
theorem jd_C_load_0 : decode jc_C_load 0 = .ok (.iload_n 1, 1) := by decide +kernel
theorem jd_C_load_1 : decode jc_C_load 1 = .ok (.iconst 0, 1) := by decide +kernel
theorem jd_C_load_2 : decode jc_C_load 2 = .ok (.iconst 3, 1) := by decide +kernel
theorem jd_C_load_3 : decode jc_C_load 3 = .ok (.invokestatic 58, 3) := by decide +kernel
theorem jd_C_load_6 : decode jc_C_load 6 = .ok (.ifCond .eq 24, 3) := by decide +kernel
theorem jd_C_load_9 : decode jc_C_load 9 = .ok (.iload_n 2, 1) := by decide +kernel
theorem jd_C_load_10 : decode jc_C_load 10 = .ok (.iconst 1, 1) := by decide +kernel
theorem jd_C_load_11 : decode jc_C_load 11 = .ok (.sipush 500, 3) := by decide +kernel
theorem jd_C_load_14 : decode jc_C_load 14 = .ok (.invokestatic 58, 3) := by decide +kernel
theorem jd_C_load_17 : decode jc_C_load 17 = .ok (.ifCond .eq 13, 3) := by decide +kernel
theorem jd_C_load_20 : decode jc_C_load 20 = .ok (.iload_n 3, 1) := by decide +kernel
theorem jd_C_load_21 : decode jc_C_load 21 = .ok (.iconst 0, 1) := by decide +kernel
theorem jd_C_load_22 : decode jc_C_load 22 = .ok (.bipush 50, 2) := by decide +kernel
theorem jd_C_load_24 : decode jc_C_load 24 = .ok (.invokestatic 58, 3) := by decide +kernel
theorem jd_C_load_27 : decode jc_C_load 27 = .ok (.ifCond .ne 11, 3) := by decide +kernel
theorem jd_C_load_30 : decode jc_C_load 30 = .ok (.new 63, 3) := by decide +kernel
theorem jd_C_load_33 : decode jc_C_load 33 = .ok (.dup, 1) := by decide +kernel
theorem jd_C_load_34 : decode jc_C_load 34 = .ok (.invokespecial 65, 3) := by decide +kernel
theorem jd_C_load_37 : decode jc_C_load 37 = .ok (.athrow, 1) := by decide +kernel
theorem jd_C_load_38 : decode jc_C_load 38 = .ok (.aload_n 0, 1) := by decide +kernel
theorem jd_C_load_39 : decode jc_C_load 39 = .ok (.getfield 48, 3) := by decide +kernel
theorem jd_C_load_42 : decode jc_C_load 42 = .ok (.iconst (-1), 1) := by decide +kernel
theorem jd_C_load_43 : decode jc_C_load 43 = .ok (.if_icmp .eq 11, 3) := by decide +kernel
theorem jd_C_load_46 : decode jc_C_load 46 = .ok (.new 70, 3) := by decide +kernel
theorem jd_C_load_49 : decode jc_C_load 49 = .ok (.dup, 1) := by decide +kernel
theorem jd_C_load_50 : decode jc_C_load 50 = .ok (.invokespecial 72, 3) := by decide +kernel
theorem jd_C_load_53 : decode jc_C_load 53 = .ok (.athrow, 1) := by decide +kernel
theorem jd_C_load_54 : decode jc_C_load 54 = .ok (.aload_n 0, 1) := by decide +kernel
theorem jd_C_load_55 : decode jc_C_load 55 = .ok (.getfield 26, 3) := by decide +kernel
theorem jd_C_load_58 : decode jc_C_load 58 = .ok (.iload_n 1, 1) := by decide +kernel
theorem jd_C_load_59 : decode jc_C_load 59 = .ok (.iload_n 2, 1) := by decide +kernel
theorem jd_C_load_60 : decode jc_C_load 60 = .ok (.iload_n 3, 1) := by decide +kernel
theorem jd_C_load_61 : decode jc_C_load 61 = .ok (.invokevirtual 81, 3) := by decide +kernel
theorem jd_C_load_64 : decode jc_C_load 64 = .ok (.ireturn, 1) := by decide +kernel
theorem jd_D_exchangeNotes_0 : decode jc_D_exchangeNotes 0 = .ok (.aload_n 0, 1) := by decide +kernel
theorem jd_D_exchangeNotes_1 : decode jc_D_exchangeNotes 1 = .ok (.getfield 11, 3) := by decide +kernel
theorem jd_D_exchangeNotes_4 : decode jc_D_exchangeNotes 4 = .ok (.iload_n 1, 1) := by decide +kernel
theorem jd_D_exchangeNotes_5 : decode jc_D_exchangeNotes 5 = .ok (.aaload, 1) := by decide +kernel
theorem jd_D_exchangeNotes_6 : decode jc_D_exchangeNotes 6 = .ok (.astore 4, 2) := by decide +kernel
theorem jd_D_exchangeNotes_8 : decode jc_D_exchangeNotes 8 = .ok (.aload 4, 2) := by decide +kernel
theorem jd_D_exchangeNotes_10 : decode jc_D_exchangeNotes 10 = .ok (.getfield 38, 3) := by decide +kernel
theorem jd_D_exchangeNotes_13 : decode jc_D_exchangeNotes 13 = .ok (.aload 4, 2) := by decide +kernel
theorem jd_D_exchangeNotes_15 : decode jc_D_exchangeNotes 15 = .ok (.getfield 41, 3) := by decide +kernel
theorem jd_D_exchangeNotes_18 : decode jc_D_exchangeNotes 18 = .ok (.imul, 1) := by decide +kernel
theorem jd_D_exchangeNotes_19 : decode jc_D_exchangeNotes 19 = .ok (.istore 5, 2) := by decide +kernel
theorem jd_D_exchangeNotes_21 : decode jc_D_exchangeNotes 21 = .ok (.aload 4, 2) := by decide +kernel
theorem jd_D_exchangeNotes_23 : decode jc_D_exchangeNotes 23 = .ok (.iload_n 2, 1) := by decide +kernel
theorem jd_D_exchangeNotes_24 : decode jc_D_exchangeNotes 24 = .ok (.putfield 38, 3) := by decide +kernel
theorem jd_D_exchangeNotes_27 : decode jc_D_exchangeNotes 27 = .ok (.aload 4, 2) := by decide +kernel
theorem jd_D_exchangeNotes_29 : decode jc_D_exchangeNotes 29 = .ok (.iload_n 3, 1) := by decide +kernel
theorem jd_D_exchangeNotes_30 : decode jc_D_exchangeNotes 30 = .ok (.putfield 41, 3) := by decide +kernel
theorem jd_D_exchangeNotes_33 : decode jc_D_exchangeNotes 33 = .ok (.iload 5, 2) := by decide +kernel
theorem jd_D_exchangeNotes_35 : decode jc_D_exchangeNotes 35 = .ok (.ireturn, 1) := by decide +kernel
theorem jd_L_insert_0 : decode jc_L_insert 0 = .ok (.aload_n 2, 1) := by decide +kernel
theorem jd_L_insert_1 : decode jc_L_insert 1 = .ok (.iconst 0, 1) := by decide +kernel
theorem jd_L_insert_2 : decode jc_L_insert 2 = .ok (.aload_n 0, 1) := by decide +kernel
theorem jd_L_insert_3 : decode jc_L_insert 3 = .ok (.iload_n 1, 1) := by decide +kernel
theorem jd_L_insert_4 : decode jc_L_insert 4 = .ok (.invokevirtual 20, 3) := by decide +kernel
theorem jd_L_insert_7 : decode jc_L_insert 7 = .ok (.i2l, 1) := by decide +kernel
theorem jd_L_insert_8 : decode jc_L_insert 8 = .ok (.lastore, 1) := by decide +kernel
theorem jd_L_insert_9 : decode jc_L_insert 9 = .ok (.goto 12, 3) := by decide +kernel
theorem jd_L_insert_12 : decode jc_L_insert 12 = .ok (.astore_n 3, 1) := by decide +kernel
theorem jd_L_insert_13 : decode jc_L_insert 13 = .ok (.iconst 1, 1) := by decide +kernel
theorem jd_L_insert_14 : decode jc_L_insert 14 = .ok (.ireturn, 1) := by decide +kernel
theorem jd_L_insert_15 : decode jc_L_insert 15 = .ok (.astore_n 3, 1) := by decide +kernel
theorem jd_L_insert_16 : decode jc_L_insert 16 = .ok (.iconst 2, 1) := by decide +kernel
theorem jd_L_insert_17 : decode jc_L_insert 17 = .ok (.ireturn, 1) := by decide +kernel
theorem jd_L_insert_18 : decode jc_L_insert 18 = .ok (.astore_n 3, 1) := by decide +kernel
theorem jd_L_insert_19 : decode jc_L_insert 19 = .ok (.iconst 3, 1) := by decide +kernel
theorem jd_L_insert_20 : decode jc_L_insert 20 = .ok (.ireturn, 1) := by decide +kernel
theorem jd_L_insert_21 : decode jc_L_insert 21 = .ok (.iconst 0, 1) := by decide +kernel
theorem jd_L_insert_22 : decode jc_L_insert 22 = .ok (.ireturn, 1) := by decide +kernel
theorem jd_C_insert_0 : decode jc_C_insert 0 = .ok (.aload_n 0, 1) := by decide +kernel
theorem jd_C_insert_1 : decode jc_C_insert 1 = .ok (.getfield 44, 3) := by decide +kernel
theorem jd_C_insert_4 : decode jc_C_insert 4 = .ok (.ifCond .eq 11, 3) := by decide +kernel
theorem jd_C_insert_7 : decode jc_C_insert 7 = .ok (.aload_n 0, 1) := by decide +kernel
theorem jd_C_insert_8 : decode jc_C_insert 8 = .ok (.getfield 48, 3) := by decide +kernel
theorem jd_C_insert_11 : decode jc_C_insert 11 = .ok (.iconst (-1), 1) := by decide +kernel
theorem jd_C_insert_12 : decode jc_C_insert 12 = .ok (.if_icmp .eq 11, 3) := by decide +kernel
theorem jd_C_insert_15 : decode jc_C_insert 15 = .ok (.new 70, 3) := by decide +kernel
theorem jd_C_insert_18 : decode jc_C_insert 18 = .ok (.dup, 1) := by decide +kernel
theorem jd_C_insert_19 : decode jc_C_insert 19 = .ok (.invokespecial 72, 3) := by decide +kernel
theorem jd_C_insert_22 : decode jc_C_insert 22 = .ok (.athrow, 1) := by decide +kernel
theorem jd_C_insert_23 : decode jc_C_insert 23 = .ok (.aload_n 0, 1) := by decide +kernel
theorem jd_C_insert_24 : decode jc_C_insert 24 = .ok (.getfield 10, 3) := by decide +kernel
theorem jd_C_insert_27 : decode jc_C_insert 27 = .ok (.iload_n 1, 1) := by decide +kernel
theorem jd_C_insert_28 : decode jc_C_insert 28 = .ok (.invokevirtual 66, 3) := by decide +kernel
theorem jd_C_insert_31 : decode jc_C_insert 31 = .ok (.ifCond .ne 11, 3) := by decide +kernel
theorem jd_C_insert_34 : decode jc_C_insert 34 = .ok (.new 85, 3) := by decide +kernel
theorem jd_C_insert_37 : decode jc_C_insert 37 = .ok (.dup, 1) := by decide +kernel
theorem jd_C_insert_38 : decode jc_C_insert 38 = .ok (.invokespecial 87, 3) := by decide +kernel
theorem jd_C_insert_41 : decode jc_C_insert 41 = .ok (.athrow, 1) := by decide +kernel
theorem jd_C_insert_42 : decode jc_C_insert 42 = .ok (.aload_n 0, 1) := by decide +kernel
theorem jd_C_insert_43 : decode jc_C_insert 43 = .ok (.getfield 10, 3) := by decide +kernel
theorem jd_C_insert_46 : decode jc_C_insert 46 = .ok (.getfield 88, 3) := by decide +kernel
theorem jd_C_insert_49 : decode jc_C_insert 49 = .ok (.iload_n 1, 1) := by decide +kernel
theorem jd_C_insert_50 : decode jc_C_insert 50 = .ok (.aaload, 1) := by decide +kernel
theorem jd_C_insert_51 : decode jc_C_insert 51 = .ok (.getfield 92, 3) := by decide +kernel
theorem jd_C_insert_54 : decode jc_C_insert 54 = .ok (.ifCond .eq 11, 3) := by decide +kernel
theorem jd_C_insert_57 : decode jc_C_insert 57 = .ok (.new 97, 3) := by decide +kernel
theorem jd_C_insert_60 : decode jc_C_insert 60 = .ok (.dup, 1) := by decide +kernel
theorem jd_C_insert_61 : decode jc_C_insert 61 = .ok (.invokespecial 99, 3) := by decide +kernel
theorem jd_C_insert_64 : decode jc_C_insert 64 = .ok (.athrow, 1) := by decide +kernel
theorem jd_C_insert_65 : decode jc_C_insert 65 = .ok (.aload_n 0, 1) := by decide +kernel
theorem jd_C_insert_66 : decode jc_C_insert 66 = .ok (.iload_n 1, 1) := by decide +kernel
theorem jd_C_insert_67 : decode jc_C_insert 67 = .ok (.putfield 48, 3) := by decide +kernel
theorem jd_C_insert_70 : decode jc_C_insert 70 = .ok (.aload_n 0, 1) := by decide +kernel
theorem jd_C_insert_71 : decode jc_C_insert 71 = .ok (.iconst 0, 1) := by decide +kernel
theorem jd_C_insert_72 : decode jc_C_insert 72 = .ok (.putfield 52, 3) := by decide +kernel
theorem jd_C_insert_75 : decode jc_C_insert 75 = .ok (.aload_n 0, 1) := by decide +kernel
theorem jd_C_insert_76 : decode jc_C_insert 76 = .ok (.getfield 10, 3) := by decide +kernel
theorem jd_C_insert_79 : decode jc_C_insert 79 = .ok (.getfield 88, 3) := by decide +kernel
theorem jd_C_insert_82 : decode jc_C_insert 82 = .ok (.iload_n 1, 1) := by decide +kernel
theorem jd_C_insert_83 : decode jc_C_insert 83 = .ok (.aaload, 1) := by decide +kernel
theorem jd_C_insert_84 : decode jc_C_insert 84 = .ok (.getfield 100, 3) := by decide +kernel
theorem jd_C_insert_87 : decode jc_C_insert 87 = .ok (.ireturn, 1) := by decide +kernel
theorem jd_L_pin_0 : decode jc_L_pin 0 = .ok (.aload_n 2, 1) := by decide +kernel
theorem jd_L_pin_1 : decode jc_L_pin 1 = .ok (.iconst 0, 1) := by decide +kernel
theorem jd_L_pin_2 : decode jc_L_pin 2 = .ok (.aload_n 0, 1) := by decide +kernel
theorem jd_L_pin_3 : decode jc_L_pin 3 = .ok (.iload_n 1, 1) := by decide +kernel
theorem jd_L_pin_4 : decode jc_L_pin 4 = .ok (.invokevirtual 28, 3) := by decide +kernel
theorem jd_L_pin_7 : decode jc_L_pin 7 = .ok (.i2l, 1) := by decide +kernel
theorem jd_L_pin_8 : decode jc_L_pin 8 = .ok (.lastore, 1) := by decide +kernel
theorem jd_L_pin_9 : decode jc_L_pin 9 = .ok (.goto 6, 3) := by decide +kernel
theorem jd_L_pin_12 : decode jc_L_pin 12 = .ok (.astore_n 3, 1) := by decide +kernel
theorem jd_L_pin_13 : decode jc_L_pin 13 = .ok (.iconst 1, 1) := by decide +kernel
theorem jd_L_pin_14 : decode jc_L_pin 14 = .ok (.ireturn, 1) := by decide +kernel
theorem jd_L_pin_15 : decode jc_L_pin 15 = .ok (.iconst 0, 1) := by decide +kernel
theorem jd_L_pin_16 : decode jc_L_pin 16 = .ok (.ireturn, 1) := by decide +kernel
theorem jd_C_pin_0 : decode jc_C_pin 0 = .ok (.aload_n 0, 1) := by decide +kernel
theorem jd_C_pin_1 : decode jc_C_pin 1 = .ok (.getfield 48, 3) := by decide +kernel
theorem jd_C_pin_4 : decode jc_C_pin 4 = .ok (.iconst (-1), 1) := by decide +kernel
theorem jd_C_pin_5 : decode jc_C_pin 5 = .ok (.if_icmp .eq 10, 3) := by decide +kernel
theorem jd_C_pin_8 : decode jc_C_pin 8 = .ok (.aload_n 0, 1) := by decide +kernel
theorem jd_C_pin_9 : decode jc_C_pin 9 = .ok (.getfield 52, 3) := by decide +kernel
theorem jd_C_pin_12 : decode jc_C_pin 12 = .ok (.ifCond .eq 11, 3) := by decide +kernel
theorem jd_C_pin_15 : decode jc_C_pin 15 = .ok (.new 70, 3) := by decide +kernel
theorem jd_C_pin_18 : decode jc_C_pin 18 = .ok (.dup, 1) := by decide +kernel
theorem jd_C_pin_19 : decode jc_C_pin 19 = .ok (.invokespecial 72, 3) := by decide +kernel
theorem jd_C_pin_22 : decode jc_C_pin 22 = .ok (.athrow, 1) := by decide +kernel
theorem jd_C_pin_23 : decode jc_C_pin 23 = .ok (.aload_n 0, 1) := by decide +kernel
theorem jd_C_pin_24 : decode jc_C_pin 24 = .ok (.getfield 10, 3) := by decide +kernel
theorem jd_C_pin_27 : decode jc_C_pin 27 = .ok (.getfield 88, 3) := by decide +kernel
theorem jd_C_pin_30 : decode jc_C_pin 30 = .ok (.aload_n 0, 1) := by decide +kernel
theorem jd_C_pin_31 : decode jc_C_pin 31 = .ok (.getfield 48, 3) := by decide +kernel
theorem jd_C_pin_34 : decode jc_C_pin 34 = .ok (.aaload, 1) := by decide +kernel
theorem jd_C_pin_35 : decode jc_C_pin 35 = .ok (.astore_n 2, 1) := by decide +kernel
theorem jd_C_pin_36 : decode jc_C_pin 36 = .ok (.aload_n 0, 1) := by decide +kernel
theorem jd_C_pin_37 : decode jc_C_pin 37 = .ok (.aload_n 2, 1) := by decide +kernel
theorem jd_C_pin_38 : decode jc_C_pin 38 = .ok (.iload_n 1, 1) := by decide +kernel
theorem jd_C_pin_39 : decode jc_C_pin 39 = .ok (.invokevirtual 103, 3) := by decide +kernel
theorem jd_C_pin_42 : decode jc_C_pin 42 = .ok (.putfield 52, 3) := by decide +kernel
theorem jd_C_pin_45 : decode jc_C_pin 45 = .ok (.aload_n 2, 1) := by decide +kernel
theorem jd_C_pin_46 : decode jc_C_pin 46 = .ok (.getfield 92, 3) := by decide +kernel
theorem jd_C_pin_49 : decode jc_C_pin 49 = .ok (.ifCond .eq 7, 3) := by decide +kernel
theorem jd_C_pin_52 : decode jc_C_pin 52 = .ok (.aload_n 0, 1) := by decide +kernel
theorem jd_C_pin_53 : decode jc_C_pin 53 = .ok (.invokevirtual 106, 3) := by decide +kernel
theorem jd_C_pin_56 : decode jc_C_pin 56 = .ok (.aload_n 2, 1) := by decide +kernel
theorem jd_C_pin_57 : decode jc_C_pin 57 = .ok (.getfield 100, 3) := by decide +kernel
theorem jd_C_pin_60 : decode jc_C_pin 60 = .ok (.ireturn, 1) := by decide +kernel
theorem jd_A_tryPin_0 : decode jc_A_tryPin 0 = .ok (.iload_n 1, 1) := by decide +kernel
theorem jd_A_tryPin_1 : decode jc_A_tryPin 1 = .ok (.aload_n 0, 1) := by decide +kernel
theorem jd_A_tryPin_2 : decode jc_A_tryPin 2 = .ok (.getfield 15, 3) := by decide +kernel
theorem jd_A_tryPin_5 : decode jc_A_tryPin 5 = .ok (.if_icmp .ne 10, 3) := by decide +kernel
theorem jd_A_tryPin_8 : decode jc_A_tryPin 8 = .ok (.aload_n 0, 1) := by decide +kernel
theorem jd_A_tryPin_9 : decode jc_A_tryPin 9 = .ok (.iconst 3, 1) := by decide +kernel
theorem jd_A_tryPin_10 : decode jc_A_tryPin 10 = .ok (.putfield 25, 3) := by decide +kernel
theorem jd_A_tryPin_13 : decode jc_A_tryPin 13 = .ok (.iconst 1, 1) := by decide +kernel
theorem jd_A_tryPin_14 : decode jc_A_tryPin 14 = .ok (.ireturn, 1) := by decide +kernel
theorem jd_A_tryPin_15 : decode jc_A_tryPin 15 = .ok (.aload_n 0, 1) := by decide +kernel
theorem jd_A_tryPin_16 : decode jc_A_tryPin 16 = .ok (.dup, 1) := by decide +kernel
theorem jd_A_tryPin_17 : decode jc_A_tryPin 17 = .ok (.getfield 25, 3) := by decide +kernel
theorem jd_A_tryPin_20 : decode jc_A_tryPin 20 = .ok (.iconst 1, 1) := by decide +kernel
theorem jd_A_tryPin_21 : decode jc_A_tryPin 21 = .ok (.isub, 1) := by decide +kernel
theorem jd_A_tryPin_22 : decode jc_A_tryPin 22 = .ok (.putfield 25, 3) := by decide +kernel
theorem jd_A_tryPin_25 : decode jc_A_tryPin 25 = .ok (.aload_n 0, 1) := by decide +kernel
theorem jd_A_tryPin_26 : decode jc_A_tryPin 26 = .ok (.aload_n 0, 1) := by decide +kernel
theorem jd_A_tryPin_27 : decode jc_A_tryPin 27 = .ok (.getfield 25, 3) := by decide +kernel
theorem jd_A_tryPin_30 : decode jc_A_tryPin 30 = .ok (.ifCond .gt 7, 3) := by decide +kernel
theorem jd_A_tryPin_33 : decode jc_A_tryPin 33 = .ok (.iconst 1, 1) := by decide +kernel
theorem jd_A_tryPin_34 : decode jc_A_tryPin 34 = .ok (.goto 4, 3) := by decide +kernel
theorem jd_A_tryPin_37 : decode jc_A_tryPin 37 = .ok (.iconst 0, 1) := by decide +kernel
theorem jd_A_tryPin_38 : decode jc_A_tryPin 38 = .ok (.putfield 28, 3) := by decide +kernel
theorem jd_A_tryPin_41 : decode jc_A_tryPin 41 = .ok (.iconst 0, 1) := by decide +kernel
theorem jd_A_tryPin_42 : decode jc_A_tryPin 42 = .ok (.ireturn, 1) := by decide +kernel
theorem jd_C_endSession_0 : decode jc_C_endSession 0 = .ok (.aload_n 0, 1) := by decide +kernel
theorem jd_C_endSession_1 : decode jc_C_endSession 1 = .ok (.iconst (-1), 1) := by decide +kernel
theorem jd_C_endSession_2 : decode jc_C_endSession 2 = .ok (.putfield 48, 3) := by decide +kernel
theorem jd_C_endSession_5 : decode jc_C_endSession 5 = .ok (.aload_n 0, 1) := by decide +kernel
theorem jd_C_endSession_6 : decode jc_C_endSession 6 = .ok (.iconst 0, 1) := by decide +kernel
theorem jd_C_endSession_7 : decode jc_C_endSession 7 = .ok (.putfield 52, 3) := by decide +kernel
theorem jd_C_endSession_10 : decode jc_C_endSession 10 = .ok (.return_, 1) := by decide +kernel
theorem jd_L_eject_0 : decode jc_L_eject 0 = .ok (.aload_n 1, 1) := by decide +kernel
theorem jd_L_eject_1 : decode jc_L_eject 1 = .ok (.iconst 0, 1) := by decide +kernel
theorem jd_L_eject_2 : decode jc_L_eject 2 = .ok (.aload_n 0, 1) := by decide +kernel
theorem jd_L_eject_3 : decode jc_L_eject 3 = .ok (.invokevirtual 31, 3) := by decide +kernel
theorem jd_L_eject_6 : decode jc_L_eject 6 = .ok (.i2l, 1) := by decide +kernel
theorem jd_L_eject_7 : decode jc_L_eject 7 = .ok (.lastore, 1) := by decide +kernel
theorem jd_L_eject_8 : decode jc_L_eject 8 = .ok (.goto 6, 3) := by decide +kernel
theorem jd_L_eject_11 : decode jc_L_eject 11 = .ok (.astore_n 2, 1) := by decide +kernel
theorem jd_L_eject_12 : decode jc_L_eject 12 = .ok (.iconst 1, 1) := by decide +kernel
theorem jd_L_eject_13 : decode jc_L_eject 13 = .ok (.ireturn, 1) := by decide +kernel
theorem jd_L_eject_14 : decode jc_L_eject 14 = .ok (.iconst 0, 1) := by decide +kernel
theorem jd_L_eject_15 : decode jc_L_eject 15 = .ok (.ireturn, 1) := by decide +kernel
theorem jd_C_eject_0 : decode jc_C_eject 0 = .ok (.aload_n 0, 1) := by decide +kernel
theorem jd_C_eject_1 : decode jc_C_eject 1 = .ok (.getfield 48, 3) := by decide +kernel
theorem jd_C_eject_4 : decode jc_C_eject 4 = .ok (.iconst (-1), 1) := by decide +kernel
theorem jd_C_eject_5 : decode jc_C_eject 5 = .ok (.if_icmp .ne 11, 3) := by decide +kernel
theorem jd_C_eject_8 : decode jc_C_eject 8 = .ok (.new 70, 3) := by decide +kernel
theorem jd_C_eject_11 : decode jc_C_eject 11 = .ok (.dup, 1) := by decide +kernel
theorem jd_C_eject_12 : decode jc_C_eject 12 = .ok (.invokespecial 72, 3) := by decide +kernel
theorem jd_C_eject_15 : decode jc_C_eject 15 = .ok (.athrow, 1) := by decide +kernel
theorem jd_C_eject_16 : decode jc_C_eject 16 = .ok (.aload_n 0, 1) := by decide +kernel
theorem jd_C_eject_17 : decode jc_C_eject 17 = .ok (.getfield 48, 3) := by decide +kernel
theorem jd_C_eject_20 : decode jc_C_eject 20 = .ok (.istore_n 1, 1) := by decide +kernel
theorem jd_C_eject_21 : decode jc_C_eject 21 = .ok (.aload_n 0, 1) := by decide +kernel
theorem jd_C_eject_22 : decode jc_C_eject 22 = .ok (.invokevirtual 106, 3) := by decide +kernel
theorem jd_C_eject_25 : decode jc_C_eject 25 = .ok (.iload_n 1, 1) := by decide +kernel
theorem jd_C_eject_26 : decode jc_C_eject 26 = .ok (.ireturn, 1) := by decide +kernel
theorem jd_L_withdraw_0 : decode jc_L_withdraw 0 = .ok (.aload_n 2, 1) := by decide +kernel
theorem jd_L_withdraw_1 : decode jc_L_withdraw 1 = .ok (.iconst 0, 1) := by decide +kernel
theorem jd_L_withdraw_2 : decode jc_L_withdraw 2 = .ok (.aload_n 0, 1) := by decide +kernel
theorem jd_L_withdraw_3 : decode jc_L_withdraw 3 = .ok (.iload_n 1, 1) := by decide +kernel
theorem jd_L_withdraw_4 : decode jc_L_withdraw 4 = .ok (.invokevirtual 35, 3) := by decide +kernel
theorem jd_L_withdraw_7 : decode jc_L_withdraw 7 = .ok (.i2l, 1) := by decide +kernel
theorem jd_L_withdraw_8 : decode jc_L_withdraw 8 = .ok (.lastore, 1) := by decide +kernel
theorem jd_L_withdraw_9 : decode jc_L_withdraw 9 = .ok (.goto 15, 3) := by decide +kernel
theorem jd_L_withdraw_12 : decode jc_L_withdraw 12 = .ok (.astore_n 3, 1) := by decide +kernel
theorem jd_L_withdraw_13 : decode jc_L_withdraw 13 = .ok (.iconst 1, 1) := by decide +kernel
theorem jd_L_withdraw_14 : decode jc_L_withdraw 14 = .ok (.ireturn, 1) := by decide +kernel
theorem jd_L_withdraw_15 : decode jc_L_withdraw 15 = .ok (.astore_n 3, 1) := by decide +kernel
theorem jd_L_withdraw_16 : decode jc_L_withdraw 16 = .ok (.iconst 2, 1) := by decide +kernel
theorem jd_L_withdraw_17 : decode jc_L_withdraw 17 = .ok (.ireturn, 1) := by decide +kernel
theorem jd_L_withdraw_18 : decode jc_L_withdraw 18 = .ok (.astore_n 3, 1) := by decide +kernel
theorem jd_L_withdraw_19 : decode jc_L_withdraw 19 = .ok (.iconst 3, 1) := by decide +kernel
theorem jd_L_withdraw_20 : decode jc_L_withdraw 20 = .ok (.ireturn, 1) := by decide +kernel
theorem jd_L_withdraw_21 : decode jc_L_withdraw 21 = .ok (.astore_n 3, 1) := by decide +kernel
theorem jd_L_withdraw_22 : decode jc_L_withdraw 22 = .ok (.iconst 4, 1) := by decide +kernel
theorem jd_L_withdraw_23 : decode jc_L_withdraw 23 = .ok (.ireturn, 1) := by decide +kernel
theorem jd_L_withdraw_24 : decode jc_L_withdraw 24 = .ok (.iconst 0, 1) := by decide +kernel
theorem jd_L_withdraw_25 : decode jc_L_withdraw 25 = .ok (.ireturn, 1) := by decide +kernel
theorem jd_C_withdraw_0 : decode jc_C_withdraw 0 = .ok (.aload_n 0, 1) := by decide +kernel
theorem jd_C_withdraw_1 : decode jc_C_withdraw 1 = .ok (.getfield 48, 3) := by decide +kernel
theorem jd_C_withdraw_4 : decode jc_C_withdraw 4 = .ok (.iconst (-1), 1) := by decide +kernel
theorem jd_C_withdraw_5 : decode jc_C_withdraw 5 = .ok (.if_icmp .eq 10, 3) := by decide +kernel
theorem jd_C_withdraw_8 : decode jc_C_withdraw 8 = .ok (.aload_n 0, 1) := by decide +kernel
theorem jd_C_withdraw_9 : decode jc_C_withdraw 9 = .ok (.getfield 52, 3) := by decide +kernel
theorem jd_C_withdraw_12 : decode jc_C_withdraw 12 = .ok (.ifCond .ne 11, 3) := by decide +kernel
theorem jd_C_withdraw_15 : decode jc_C_withdraw 15 = .ok (.new 70, 3) := by decide +kernel
theorem jd_C_withdraw_18 : decode jc_C_withdraw 18 = .ok (.dup, 1) := by decide +kernel
theorem jd_C_withdraw_19 : decode jc_C_withdraw 19 = .ok (.invokespecial 72, 3) := by decide +kernel
theorem jd_C_withdraw_22 : decode jc_C_withdraw 22 = .ok (.athrow, 1) := by decide +kernel
theorem jd_C_withdraw_23 : decode jc_C_withdraw 23 = .ok (.iload_n 1, 1) := by decide +kernel
theorem jd_C_withdraw_24 : decode jc_C_withdraw 24 = .ok (.iconst 1, 1) := by decide +kernel
theorem jd_C_withdraw_25 : decode jc_C_withdraw 25 = .ok (.sipush 5000, 3) := by decide +kernel
theorem jd_C_withdraw_28 : decode jc_C_withdraw 28 = .ok (.invokestatic 58, 3) := by decide +kernel
theorem jd_C_withdraw_31 : decode jc_C_withdraw 31 = .ok (.ifCond .ne 11, 3) := by decide +kernel
theorem jd_C_withdraw_34 : decode jc_C_withdraw 34 = .ok (.new 63, 3) := by decide +kernel
theorem jd_C_withdraw_37 : decode jc_C_withdraw 37 = .ok (.dup, 1) := by decide +kernel
theorem jd_C_withdraw_38 : decode jc_C_withdraw 38 = .ok (.invokespecial 65, 3) := by decide +kernel
theorem jd_C_withdraw_41 : decode jc_C_withdraw 41 = .ok (.athrow, 1) := by decide +kernel
theorem jd_C_withdraw_42 : decode jc_C_withdraw 42 = .ok (.aload_n 0, 1) := by decide +kernel
theorem jd_C_withdraw_43 : decode jc_C_withdraw 43 = .ok (.getfield 26, 3) := by decide +kernel
theorem jd_C_withdraw_46 : decode jc_C_withdraw 46 = .ok (.iload_n 1, 1) := by decide +kernel
theorem jd_C_withdraw_47 : decode jc_C_withdraw 47 = .ok (.invokevirtual 109, 3) := by decide +kernel
theorem jd_C_withdraw_50 : decode jc_C_withdraw 50 = .ok (.ifCond .ne 11, 3) := by decide +kernel
theorem jd_C_withdraw_53 : decode jc_C_withdraw 53 = .ok (.new 97, 3) := by decide +kernel
theorem jd_C_withdraw_56 : decode jc_C_withdraw 56 = .ok (.dup, 1) := by decide +kernel
theorem jd_C_withdraw_57 : decode jc_C_withdraw 57 = .ok (.invokespecial 99, 3) := by decide +kernel
theorem jd_C_withdraw_60 : decode jc_C_withdraw 60 = .ok (.athrow, 1) := by decide +kernel
theorem jd_C_withdraw_61 : decode jc_C_withdraw 61 = .ok (.aload_n 0, 1) := by decide +kernel
theorem jd_C_withdraw_62 : decode jc_C_withdraw 62 = .ok (.getfield 33, 3) := by decide +kernel
theorem jd_C_withdraw_65 : decode jc_C_withdraw 65 = .ok (.getfield 112, 3) := by decide +kernel
theorem jd_C_withdraw_68 : decode jc_C_withdraw 68 = .ok (.bipush 40, 2) := by decide +kernel
theorem jd_C_withdraw_70 : decode jc_C_withdraw 70 = .ok (.if_icmp .lt 11, 3) := by decide +kernel
theorem jd_C_withdraw_73 : decode jc_C_withdraw 73 = .ok (.new 115, 3) := by decide +kernel
theorem jd_C_withdraw_76 : decode jc_C_withdraw 76 = .ok (.dup, 1) := by decide +kernel
theorem jd_C_withdraw_77 : decode jc_C_withdraw 77 = .ok (.invokespecial 117, 3) := by decide +kernel
theorem jd_C_withdraw_80 : decode jc_C_withdraw 80 = .ok (.athrow, 1) := by decide +kernel
theorem jd_C_withdraw_81 : decode jc_C_withdraw 81 = .ok (.aload_n 0, 1) := by decide +kernel
theorem jd_C_withdraw_82 : decode jc_C_withdraw 82 = .ok (.aload_n 0, 1) := by decide +kernel
theorem jd_C_withdraw_83 : decode jc_C_withdraw 83 = .ok (.getfield 33, 3) := by decide +kernel
theorem jd_C_withdraw_86 : decode jc_C_withdraw 86 = .ok (.aload_n 0, 1) := by decide +kernel
theorem jd_C_withdraw_87 : decode jc_C_withdraw 87 = .ok (.getfield 48, 3) := by decide +kernel
theorem jd_C_withdraw_90 : decode jc_C_withdraw 90 = .ok (.iload_n 1, 1) := by decide +kernel
theorem jd_C_withdraw_91 : decode jc_C_withdraw 91 = .ok (.invokevirtual 118, 3) := by decide +kernel
theorem jd_C_withdraw_94 : decode jc_C_withdraw 94 = .ok (.invokevirtual 122, 3) := by decide +kernel
theorem jd_C_withdraw_97 : decode jc_C_withdraw 97 = .ok (.ireturn, 1) := by decide +kernel
theorem jd_D_findMix_0 : decode jc_D_findMix 0 = .ok (.aload_n 0, 1) := by decide +kernel
theorem jd_D_findMix_1 : decode jc_D_findMix 1 = .ok (.getfield 20, 3) := by decide +kernel
theorem jd_D_findMix_4 : decode jc_D_findMix 4 = .ok (.aload_n 0, 1) := by decide +kernel
theorem jd_D_findMix_5 : decode jc_D_findMix 5 = .ok (.getfield 11, 3) := by decide +kernel
theorem jd_D_findMix_8 : decode jc_D_findMix 8 = .ok (.iload_n 1, 1) := by decide +kernel
theorem jd_D_findMix_9 : decode jc_D_findMix 9 = .ok (.invokevirtual 44, 3) := by decide +kernel
theorem jd_D_findMix_12 : decode jc_D_findMix 12 = .ok (.ireturn, 1) := by decide +kernel
