theorem jd_N_add_16 : decode jc_N_add 16 = .ok (.iadd, 1) := by decide +kernel
theorem jd_N_add_17 : decode jc_N_add 17 = .ok (.putfield 15, 3) := by decide +kernel
theorem jd_N_add_20 : decode jc_N_add 20 = .ok (.return_, 1) := by decide +kernel
theorem jd_L_jam_0 : decode jc_L_jam 0 = .ok (.aload_n 2, 1) := by decide +kernel
theorem jd_L_jam_1 : decode jc_L_jam 1 = .ok (.iconst 0, 1) := by decide +kernel
theorem jd_L_jam_2 : decode jc_L_jam 2 = .ok (.aload_n 0, 1) := by decide +kernel
theorem jd_L_jam_3 : decode jc_L_jam 3 = .ok (.iload_n 1, 1) := by decide +kernel
theorem jd_L_jam_4 : decode jc_L_jam 4 = .ok (.invokevirtual 47, 3) := by decide +kernel
theorem jd_L_jam_7 : decode jc_L_jam 7 = .ok (.i2l, 1) := by decide +kernel
theorem jd_L_jam_8 : decode jc_L_jam 8 = .ok (.lastore, 1) := by decide +kernel
theorem jd_L_jam_9 : decode jc_L_jam 9 = .ok (.goto 6, 3) := by decide +kernel
theorem jd_L_jam_12 : decode jc_L_jam 12 = .ok (.astore_n 3, 1) := by decide +kernel
theorem jd_L_jam_13 : decode jc_L_jam 13 = .ok (.iconst 1, 1) := by decide +kernel
theorem jd_L_jam_14 : decode jc_L_jam 14 = .ok (.ireturn, 1) := by decide +kernel
theorem jd_L_jam_15 : decode jc_L_jam 15 = .ok (.iconst 0, 1) := by decide +kernel
theorem jd_L_jam_16 : decode jc_L_jam 16 = .ok (.ireturn, 1) := by decide +kernel
theorem jd_C_jam_0 : decode jc_C_jam 0 = .ok (.iload_n 1, 1) := by decide +kernel
theorem jd_C_jam_1 : decode jc_C_jam 1 = .ok (.iconst (-1), 1) := by decide +kernel
theorem jd_C_jam_2 : decode jc_C_jam 2 = .ok (.bipush 100, 2) := by decide +kernel
theorem jd_C_jam_4 : decode jc_C_jam 4 = .ok (.invokestatic 58, 3) := by decide +kernel
theorem jd_C_jam_7 : decode jc_C_jam 7 = .ok (.ifCond .ne 11, 3) := by decide +kernel
theorem jd_C_jam_10 : decode jc_C_jam 10 = .ok (.new 63, 3) := by decide +kernel
theorem jd_C_jam_13 : decode jc_C_jam 13 = .ok (.dup, 1) := by decide +kernel
theorem jd_C_jam_14 : decode jc_C_jam 14 = .ok (.invokespecial 65, 3) := by decide +kernel
theorem jd_C_jam_17 : decode jc_C_jam 17 = .ok (.athrow, 1) := by decide +kernel
theorem jd_C_jam_18 : decode jc_C_jam 18 = .ok (.aload_n 0, 1) := by decide +kernel
theorem jd_C_jam_19 : decode jc_C_jam 19 = .ok (.getfield 26, 3) := by decide +kernel
theorem jd_C_jam_22 : decode jc_C_jam 22 = .ok (.iload_n 1, 1) := by decide +kernel
theorem jd_C_jam_23 : decode jc_C_jam 23 = .ok (.putfield 141, 3) := by decide +kernel
theorem jd_C_jam_26 : decode jc_C_jam 26 = .ok (.iload_n 1, 1) := by decide +kernel
theorem jd_C_jam_27 : decode jc_C_jam 27 = .ok (.iconst (-1), 1) := by decide +kernel
theorem jd_C_jam_28 : decode jc_C_jam 28 = .ok (.if_icmp .ne 7, 3) := by decide +kernel
theorem jd_C_jam_31 : decode jc_C_jam 31 = .ok (.iconst 0, 1) := by decide +kernel
theorem jd_C_jam_32 : decode jc_C_jam 32 = .ok (.goto 4, 3) := by decide +kernel
theorem jd_C_jam_35 : decode jc_C_jam 35 = .ok (.iconst 1, 1) := by decide +kernel
theorem jd_C_jam_36 : decode jc_C_jam 36 = .ok (.ireturn, 1) := by decide +kernel
theorem jd_L_power_0 : decode jc_L_power 0 = .ok (.aload_n 2, 1) := by decide +kernel
theorem jd_L_power_1 : decode jc_L_power 1 = .ok (.iconst 0, 1) := by decide +kernel
theorem jd_L_power_2 : decode jc_L_power 2 = .ok (.aload_n 0, 1) := by decide +kernel
theorem jd_L_power_3 : decode jc_L_power 3 = .ok (.iload_n 1, 1) := by decide +kernel
theorem jd_L_power_4 : decode jc_L_power 4 = .ok (.invokevirtual 50, 3) := by decide +kernel
theorem jd_L_power_7 : decode jc_L_power 7 = .ok (.i2l, 1) := by decide +kernel
theorem jd_L_power_8 : decode jc_L_power 8 = .ok (.lastore, 1) := by decide +kernel
theorem jd_L_power_9 : decode jc_L_power 9 = .ok (.goto 6, 3) := by decide +kernel
theorem jd_L_power_12 : decode jc_L_power 12 = .ok (.astore_n 3, 1) := by decide +kernel
theorem jd_L_power_13 : decode jc_L_power 13 = .ok (.iconst 1, 1) := by decide +kernel
theorem jd_L_power_14 : decode jc_L_power 14 = .ok (.ireturn, 1) := by decide +kernel
theorem jd_L_power_15 : decode jc_L_power 15 = .ok (.iconst 0, 1) := by decide +kernel
theorem jd_L_power_16 : decode jc_L_power 16 = .ok (.ireturn, 1) := by decide +kernel
theorem jd_C_power_0 : decode jc_C_power 0 = .ok (.iload_n 1, 1) := by decide +kernel
theorem jd_C_power_1 : decode jc_C_power 1 = .ok (.iconst 0, 1) := by decide +kernel
theorem jd_C_power_2 : decode jc_C_power 2 = .ok (.iconst 4, 1) := by decide +kernel
theorem jd_C_power_3 : decode jc_C_power 3 = .ok (.invokestatic 58, 3) := by decide +kernel
theorem jd_C_power_6 : decode jc_C_power 6 = .ok (.ifCond .ne 11, 3) := by decide +kernel
theorem jd_C_power_9 : decode jc_C_power 9 = .ok (.new 63, 3) := by decide +kernel
theorem jd_C_power_12 : decode jc_C_power 12 = .ok (.dup, 1) := by decide +kernel
theorem jd_C_power_13 : decode jc_C_power 13 = .ok (.invokespecial 65, 3) := by decide +kernel
theorem jd_C_power_16 : decode jc_C_power 16 = .ok (.athrow, 1) := by decide +kernel
theorem jd_C_power_17 : decode jc_C_power 17 = .ok (.aload_n 0, 1) := by decide +kernel
theorem jd_C_power_18 : decode jc_C_power 18 = .ok (.iload_n 1, 1) := by decide +kernel
theorem jd_C_power_19 : decode jc_C_power 19 = .ok (.putfield 55, 3) := by decide +kernel
theorem jd_C_power_22 : decode jc_C_power 22 = .ok (.iload_n 1, 1) := by decide +kernel
theorem jd_C_power_23 : decode jc_C_power 23 = .ok (.ifCond .ne 7, 3) := by decide +kernel
theorem jd_C_power_26 : decode jc_C_power 26 = .ok (.iconst 0, 1) := by decide +kernel
theorem jd_C_power_27 : decode jc_C_power 27 = .ok (.goto 4, 3) := by decide +kernel
theorem jd_C_power_30 : decode jc_C_power 30 = .ok (.iconst 1, 1) := by decide +kernel
theorem jd_C_power_31 : decode jc_C_power 31 = .ok (.ireturn, 1) := by decide +kernel
theorem jd_L_boot_0 : decode jc_L_boot 0 = .ok (.aload_n 1, 1) := by decide +kernel
theorem jd_L_boot_1 : decode jc_L_boot 1 = .ok (.iconst 0, 1) := by decide +kernel
theorem jd_L_boot_2 : decode jc_L_boot 2 = .ok (.aload_n 0, 1) := by decide +kernel
theorem jd_L_boot_3 : decode jc_L_boot 3 = .ok (.invokevirtual 53, 3) := by decide +kernel
theorem jd_L_boot_6 : decode jc_L_boot 6 = .ok (.i2l, 1) := by decide +kernel
theorem jd_L_boot_7 : decode jc_L_boot 7 = .ok (.lastore, 1) := by decide +kernel
theorem jd_L_boot_8 : decode jc_L_boot 8 = .ok (.goto 6, 3) := by decide +kernel
theorem jd_L_boot_11 : decode jc_L_boot 11 = .ok (.astore_n 2, 1) := by decide +kernel
theorem jd_L_boot_12 : decode jc_L_boot 12 = .ok (.iconst 1, 1) := by decide +kernel
theorem jd_L_boot_13 : decode jc_L_boot 13 = .ok (.ireturn, 1) := by decide +kernel
theorem jd_L_boot_14 : decode jc_L_boot 14 = .ok (.iconst 0, 1) := by decide +kernel
theorem jd_L_boot_15 : decode jc_L_boot 15 = .ok (.ireturn, 1) := by decide +kernel
theorem jd_C_boot_0 : decode jc_C_boot 0 = .ok (.aload_n 0, 1) := by decide +kernel
theorem jd_C_boot_1 : decode jc_C_boot 1 = .ok (.getfield 44, 3) := by decide +kernel
theorem jd_C_boot_4 : decode jc_C_boot 4 = .ok (.ifCond .eq 11, 3) := by decide +kernel
theorem jd_C_boot_7 : decode jc_C_boot 7 = .ok (.new 70, 3) := by decide +kernel
theorem jd_C_boot_10 : decode jc_C_boot 10 = .ok (.dup, 1) := by decide +kernel
theorem jd_C_boot_11 : decode jc_C_boot 11 = .ok (.invokespecial 72, 3) := by decide +kernel
theorem jd_C_boot_14 : decode jc_C_boot 14 = .ok (.athrow, 1) := by decide +kernel
theorem jd_C_boot_15 : decode jc_C_boot 15 = .ok (.aload_n 0, 1) := by decide +kernel
theorem jd_C_boot_16 : decode jc_C_boot 16 = .ok (.iconst 1, 1) := by decide +kernel
theorem jd_C_boot_17 : decode jc_C_boot 17 = .ok (.putfield 44, 3) := by decide +kernel
theorem jd_C_boot_20 : decode jc_C_boot 20 = .ok (.aload_n 0, 1) := by decide +kernel
theorem jd_C_boot_21 : decode jc_C_boot 21 = .ok (.getfield 33, 3) := by decide +kernel
theorem jd_C_boot_24 : decode jc_C_boot 24 = .ok (.getfield 112, 3) := by decide +kernel
theorem jd_C_boot_27 : decode jc_C_boot 27 = .ok (.ifCond .le 14, 3) := by decide +kernel
theorem jd_C_boot_30 : decode jc_C_boot 30 = .ok (.aload_n 0, 1) := by decide +kernel
theorem jd_C_boot_31 : decode jc_C_boot 31 = .ok (.aload_n 0, 1) := by decide +kernel
theorem jd_C_boot_32 : decode jc_C_boot 32 = .ok (.getfield 33, 3) := by decide +kernel
theorem jd_C_boot_35 : decode jc_C_boot 35 = .ok (.invokevirtual 144, 3) := by decide +kernel
theorem jd_C_boot_38 : decode jc_C_boot 38 = .ok (.invokevirtual 148, 3) := by decide +kernel
theorem jd_C_boot_41 : decode jc_C_boot 41 = .ok (.aload_n 0, 1) := by decide +kernel
theorem jd_C_boot_42 : decode jc_C_boot 42 = .ok (.getfield 40, 3) := by decide +kernel
theorem jd_C_boot_45 : decode jc_C_boot 45 = .ok (.getfield 152, 3) := by decide +kernel
theorem jd_C_boot_48 : decode jc_C_boot 48 = .ok (.ireturn, 1) := by decide +kernel
theorem jd_J_last_0 : decode jc_J_last 0 = .ok (.aload_n 0, 1) := by decide +kernel
theorem jd_J_last_1 : decode jc_J_last 1 = .ok (.getfield 11, 3) := by decide +kernel
theorem jd_J_last_4 : decode jc_J_last 4 = .ok (.aload_n 0, 1) := by decide +kernel
theorem jd_J_last_5 : decode jc_J_last 5 = .ok (.getfield 17, 3) := by decide +kernel
theorem jd_J_last_8 : decode jc_J_last 8 = .ok (.iconst 1, 1) := by decide +kernel
theorem jd_J_last_9 : decode jc_J_last 9 = .ok (.isub, 1) := by decide +kernel
theorem jd_J_last_10 : decode jc_J_last 10 = .ok (.aaload, 1) := by decide +kernel
theorem jd_J_last_11 : decode jc_J_last 11 = .ok (.areturn, 1) := by decide +kernel
theorem jd_C_recover_0 : decode jc_C_recover 0 = .ok (.aload_n 1, 1) := by decide +kernel
theorem jd_C_recover_1 : decode jc_C_recover 1 = .ok (.getfield 166, 3) := by decide +kernel
theorem jd_C_recover_4 : decode jc_C_recover 4 = .ok (.iconst 1, 1) := by decide +kernel
theorem jd_C_recover_5 : decode jc_C_recover 5 = .ok (.if_icmp .ne 11, 3) := by decide +kernel
theorem jd_C_recover_8 : decode jc_C_recover 8 = .ok (.aload_n 0, 1) := by decide +kernel
theorem jd_C_recover_9 : decode jc_C_recover 9 = .ok (.aload_n 1, 1) := by decide +kernel
theorem jd_C_recover_10 : decode jc_C_recover 10 = .ok (.invokevirtual 207, 3) := by decide +kernel
theorem jd_C_recover_13 : decode jc_C_recover 13 = .ok (.goto 27, 3) := by decide +kernel
theorem jd_C_recover_16 : decode jc_C_recover 16 = .ok (.aload_n 1, 1) := by decide +kernel
theorem jd_C_recover_17 : decode jc_C_recover 17 = .ok (.getfield 166, 3) := by decide +kernel
theorem jd_C_recover_20 : decode jc_C_recover 20 = .ok (.iconst 2, 1) := by decide +kernel
theorem jd_C_recover_21 : decode jc_C_recover 21 = .ok (.if_icmp .ne 19, 3) := by decide +kernel
theorem jd_C_recover_24 : decode jc_C_recover 24 = .ok (.aload_n 0, 1) := by decide +kernel
theorem jd_C_recover_25 : decode jc_C_recover 25 = .ok (.aload_n 1, 1) := by decide +kernel
theorem jd_C_recover_26 : decode jc_C_recover 26 = .ok (.aload_n 0, 1) := by decide +kernel
theorem jd_C_recover_27 : decode jc_C_recover 27 = .ok (.getfield 26, 3) := by decide +kernel
theorem jd_C_recover_30 : decode jc_C_recover 30 = .ok (.aload_n 1, 1) := by decide +kernel
theorem jd_C_recover_31 : decode jc_C_recover 31 = .ok (.getfield 213, 3) := by decide +kernel
theorem jd_C_recover_34 : decode jc_C_recover 34 = .ok (.invokevirtual 227, 3) := by decide +kernel
theorem jd_C_recover_37 : decode jc_C_recover 37 = .ok (.invokevirtual 220, 3) := by decide +kernel
theorem jd_C_recover_40 : decode jc_C_recover 40 = .ok (.return_, 1) := by decide +kernel
theorem jd_D_presentedFor_0 : decode jc_D_presentedFor 0 = .ok (.iload_n 1, 1) := by decide +kernel
theorem jd_D_presentedFor_1 : decode jc_D_presentedFor 1 = .ok (.aload_n 0, 1) := by decide +kernel
theorem jd_D_presentedFor_2 : decode jc_D_presentedFor 2 = .ok (.getfield 31, 3) := by decide +kernel
theorem jd_D_presentedFor_5 : decode jc_D_presentedFor 5 = .ok (.if_icmp .ne 10, 3) := by decide +kernel
theorem jd_D_presentedFor_8 : decode jc_D_presentedFor 8 = .ok (.aload_n 0, 1) := by decide +kernel
theorem jd_D_presentedFor_9 : decode jc_D_presentedFor 9 = .ok (.getfield 34, 3) := by decide +kernel
theorem jd_D_presentedFor_12 : decode jc_D_presentedFor 12 = .ok (.goto 4, 3) := by decide +kernel
theorem jd_D_presentedFor_15 : decode jc_D_presentedFor 15 = .ok (.iconst 0, 1) := by decide +kernel
theorem jd_D_presentedFor_16 : decode jc_D_presentedFor 16 = .ok (.ireturn, 1) := by decide +kernel
theorem jd_L_settle_0 : decode jc_L_settle 0 = .ok (.aload_n 1, 1) := by decide +kernel
theorem jd_L_settle_1 : decode jc_L_settle 1 = .ok (.iconst 0, 1) := by decide +kernel
theorem jd_L_settle_2 : decode jc_L_settle 2 = .ok (.aload_n 0, 1) := by decide +kernel
theorem jd_L_settle_3 : decode jc_L_settle 3 = .ok (.invokevirtual 56, 3) := by decide +kernel
theorem jd_L_settle_6 : decode jc_L_settle 6 = .ok (.i2l, 1) := by decide +kernel
theorem jd_L_settle_7 : decode jc_L_settle 7 = .ok (.lastore, 1) := by decide +kernel
theorem jd_L_settle_8 : decode jc_L_settle 8 = .ok (.goto 6, 3) := by decide +kernel
theorem jd_L_settle_11 : decode jc_L_settle 11 = .ok (.astore_n 2, 1) := by decide +kernel
theorem jd_L_settle_12 : decode jc_L_settle 12 = .ok (.iconst 1, 1) := by decide +kernel
theorem jd_L_settle_13 : decode jc_L_settle 13 = .ok (.ireturn, 1) := by decide +kernel
theorem jd_L_settle_14 : decode jc_L_settle 14 = .ok (.iconst 0, 1) := by decide +kernel
theorem jd_L_settle_15 : decode jc_L_settle 15 = .ok (.ireturn, 1) := by decide +kernel
theorem jd_C_settle_0 : decode jc_C_settle 0 = .ok (.aload_n 0, 1) := by decide +kernel
theorem jd_C_settle_1 : decode jc_C_settle 1 = .ok (.getfield 44, 3) := by decide +kernel
theorem jd_C_settle_4 : decode jc_C_settle 4 = .ok (.ifCond .ne 11, 3) := by decide +kernel
theorem jd_C_settle_7 : decode jc_C_settle 7 = .ok (.new 70, 3) := by decide +kernel
theorem jd_C_settle_10 : decode jc_C_settle 10 = .ok (.dup, 1) := by decide +kernel
theorem jd_C_settle_11 : decode jc_C_settle 11 = .ok (.invokespecial 72, 3) := by decide +kernel
theorem jd_C_settle_14 : decode jc_C_settle 14 = .ok (.athrow, 1) := by decide +kernel
theorem jd_C_settle_15 : decode jc_C_settle 15 = .ok (.iconst 0, 1) := by decide +kernel
theorem jd_C_settle_16 : decode jc_C_settle 16 = .ok (.istore_n 1, 1) := by decide +kernel
theorem jd_C_settle_17 : decode jc_C_settle 17 = .ok (.iload_n 1, 1) := by decide +kernel
theorem jd_C_settle_18 : decode jc_C_settle 18 = .ok (.aload_n 0, 1) := by decide +kernel
theorem jd_C_settle_19 : decode jc_C_settle 19 = .ok (.getfield 40, 3) := by decide +kernel
theorem jd_C_settle_22 : decode jc_C_settle 22 = .ok (.getfield 152, 3) := by decide +kernel
theorem jd_C_settle_25 : decode jc_C_settle 25 = .ok (.if_icmp .ge 17, 3) := by decide +kernel
theorem jd_C_settle_28 : decode jc_C_settle 28 = .ok (.aload_n 0, 1) := by decide +kernel
theorem jd_C_settle_29 : decode jc_C_settle 29 = .ok (.iload_n 1, 1) := by decide +kernel
theorem jd_C_settle_30 : decode jc_C_settle 30 = .ok (.invokevirtual 153, 3) := by decide +kernel
theorem jd_C_settle_33 : decode jc_C_settle 33 = .ok (.ifCond .eq 9, 3) := by decide +kernel
theorem jd_C_settle_36 : decode jc_C_settle 36 = .ok (.iinc 1 1, 3) := by decide +kernel
theorem jd_C_settle_39 : decode jc_C_settle 39 = .ok (.goto (-22), 3) := by decide +kernel
theorem jd_C_settle_42 : decode jc_C_settle 42 = .ok (.aload_n 0, 1) := by decide +kernel
theorem jd_C_settle_43 : decode jc_C_settle 43 = .ok (.getfield 40, 3) := by decide +kernel
theorem jd_C_settle_46 : decode jc_C_settle 46 = .ok (.iload_n 1, 1) := by decide +kernel
theorem jd_C_settle_47 : decode jc_C_settle 47 = .ok (.invokevirtual 156, 3) := by decide +kernel
theorem jd_C_settle_50 : decode jc_C_settle 50 = .ok (.iload_n 1, 1) := by decide +kernel
theorem jd_C_settle_51 : decode jc_C_settle 51 = .ok (.ireturn, 1) := by decide +kernel
theorem jd_C_exchangeReversal_0 : decode jc_C_exchangeReversal 0 = .ok (.aload_n 0, 1) := by decide +kernel
theorem jd_C_exchangeReversal_1 : decode jc_C_exchangeReversal 1 = .ok (.getfield 19, 3) := by decide +kernel
theorem jd_C_exchangeReversal_4 : decode jc_C_exchangeReversal 4 = .ok (.invokevirtual 230, 3) := by decide +kernel
theorem jd_C_exchangeReversal_7 : decode jc_C_exchangeReversal 7 = .ok (.istore_n 2, 1) := by decide +kernel
theorem jd_C_exchangeReversal_8 : decode jc_C_exchangeReversal 8 = .ok (.iload_n 2, 1) := by decide +kernel
theorem jd_C_exchangeReversal_9 : decode jc_C_exchangeReversal 9 = .ok (.iconst 1, 1) := by decide +kernel
theorem jd_C_exchangeReversal_10 : decode jc_C_exchangeReversal 10 = .ok (.if_icmp .ne 5, 3) := by decide +kernel
theorem jd_C_exchangeReversal_13 : decode jc_C_exchangeReversal 13 = .ok (.iconst 0, 1) := by decide +kernel
theorem jd_C_exchangeReversal_14 : decode jc_C_exchangeReversal 14 = .ok (.ireturn, 1) := by decide +kernel
theorem jd_C_exchangeReversal_15 : decode jc_C_exchangeReversal 15 = .ok (.aload_n 0, 1) := by decide +kernel
theorem jd_C_exchangeReversal_16 : decode jc_C_exchangeReversal 16 = .ok (.getfield 10, 3) := by decide +kernel
theorem jd_C_exchangeReversal_19 : decode jc_C_exchangeReversal 19 = .ok (.aload_n 0, 1) := by decide +kernel
theorem jd_C_exchangeReversal_20 : decode jc_C_exchangeReversal 20 = .ok (.getfield 40, 3) := by decide +kernel
theorem jd_C_exchangeReversal_23 : decode jc_C_exchangeReversal 23 = .ok (.getfield 236, 3) := by decide +kernel
theorem jd_C_exchangeReversal_26 : decode jc_C_exchangeReversal 26 = .ok (.iload_n 1, 1) := by decide +kernel
theorem jd_C_exchangeReversal_27 : decode jc_C_exchangeReversal 27 = .ok (.iaload, 1) := by decide +kernel
theorem jd_C_exchangeReversal_28 : decode jc_C_exchangeReversal 28 = .ok (.aload_n 0, 1) := by decide +kernel
theorem jd_C_exchangeReversal_29 : decode jc_C_exchangeReversal 29 = .ok (.getfield 40, 3) := by decide +kernel
theorem jd_C_exchangeReversal_32 : decode jc_C_exchangeReversal 32 = .ok (.getfield 180, 3) := by decide +kernel
theorem jd_C_exchangeReversal_35 : decode jc_C_exchangeReversal 35 = .ok (.iload_n 1, 1) := by decide +kernel
theorem jd_C_exchangeReversal_36 : decode jc_C_exchangeReversal 36 = .ok (.iaload, 1) := by decide +kernel
theorem jd_C_exchangeReversal_37 : decode jc_C_exchangeReversal 37 = .ok (.invokevirtual 239, 3) := by decide +kernel
theorem jd_C_exchangeReversal_40 : decode jc_C_exchangeReversal 40 = .ok (.iload_n 2, 1) := by decide +kernel
theorem jd_C_exchangeReversal_41 : decode jc_C_exchangeReversal 41 = .ok (.iconst 3, 1) := by decide +kernel
theorem jd_C_exchangeReversal_42 : decode jc_C_exchangeReversal 42 = .ok (.if_icmp .ne 28, 3) := by decide +kernel
theorem jd_C_exchangeReversal_45 : decode jc_C_exchangeReversal 45 = .ok (.aload_n 0, 1) := by decide +kernel
theorem jd_C_exchangeReversal_46 : decode jc_C_exchangeReversal 46 = .ok (.getfield 10, 3) := by decide +kernel
theorem jd_C_exchangeReversal_49 : decode jc_C_exchangeReversal 49 = .ok (.aload_n 0, 1) := by decide +kernel
theorem jd_C_exchangeReversal_50 : decode jc_C_exchangeReversal 50 = .ok (.getfield 40, 3) := by decide +kernel
theorem jd_C_exchangeReversal_53 : decode jc_C_exchangeReversal 53 = .ok (.getfield 236, 3) := by decide +kernel
theorem jd_C_exchangeReversal_56 : decode jc_C_exchangeReversal 56 = .ok (.iload_n 1, 1) := by decide +kernel
theorem jd_C_exchangeReversal_57 : decode jc_C_exchangeReversal 57 = .ok (.iaload, 1) := by decide +kernel
theorem jd_C_exchangeReversal_58 : decode jc_C_exchangeReversal 58 = .ok (.aload_n 0, 1) := by decide +kernel
theorem jd_C_exchangeReversal_59 : decode jc_C_exchangeReversal 59 = .ok (.getfield 40, 3) := by decide +kernel
theorem jd_C_exchangeReversal_62 : decode jc_C_exchangeReversal 62 = .ok (.getfield 180, 3) := by decide +kernel
theorem jd_C_exchangeReversal_65 : decode jc_C_exchangeReversal 65 = .ok (.iload_n 1, 1) := by decide +kernel
theorem jd_C_exchangeReversal_66 : decode jc_C_exchangeReversal 66 = .ok (.iaload, 1) := by decide +kernel
theorem jd_C_exchangeReversal_67 : decode jc_C_exchangeReversal 67 = .ok (.invokevirtual 239, 3) := by decide +kernel
theorem jd_C_exchangeReversal_70 : decode jc_C_exchangeReversal 70 = .ok (.iload_n 2, 1) := by decide +kernel
theorem jd_C_exchangeReversal_71 : decode jc_C_exchangeReversal 71 = .ok (.iconst 2, 1) := by decide +kernel
theorem jd_C_exchangeReversal_72 : decode jc_C_exchangeReversal 72 = .ok (.if_icmp .eq 7, 3) := by decide +kernel
theorem jd_C_exchangeReversal_75 : decode jc_C_exchangeReversal 75 = .ok (.iconst 1, 1) := by decide +kernel
theorem jd_C_exchangeReversal_76 : decode jc_C_exchangeReversal 76 = .ok (.goto 4, 3) := by decide +kernel
theorem jd_C_exchangeReversal_79 : decode jc_C_exchangeReversal 79 = .ok (.iconst 0, 1) := by decide +kernel
theorem jd_C_exchangeReversal_80 : decode jc_C_exchangeReversal 80 = .ok (.ireturn, 1) := by decide +kernel
theorem jd_H_receiveReversal_0 : decode jc_H_receiveReversal 0 = .ok (.aload_n 0, 1) := by decide +kernel
theorem jd_H_receiveReversal_1 : decode jc_H_receiveReversal 1 = .ok (.getfield 24, 3) := by decide +kernel
theorem jd_H_receiveReversal_4 : decode jc_H_receiveReversal 4 = .ok (.iload_n 1, 1) := by decide +kernel
theorem jd_H_receiveReversal_5 : decode jc_H_receiveReversal 5 = .ok (.baload, 1) := by decide +kernel
theorem jd_H_receiveReversal_6 : decode jc_H_receiveReversal 6 = .ok (.ifCond .ne 33, 3) := by decide +kernel
theorem jd_H_receiveReversal_9 : decode jc_H_receiveReversal 9 = .ok (.aload_n 0, 1) := by decide +kernel
theorem jd_H_receiveReversal_10 : decode jc_H_receiveReversal 10 = .ok (.getfield 17, 3) := by decide +kernel
theorem jd_H_receiveReversal_13 : decode jc_H_receiveReversal 13 = .ok (.iload_n 1, 1) := by decide +kernel
theorem jd_H_receiveReversal_14 : decode jc_H_receiveReversal 14 = .ok (.iaload, 1) := by decide +kernel
theorem jd_H_receiveReversal_15 : decode jc_H_receiveReversal 15 = .ok (.iconst 2, 1) := by decide +kernel
theorem jd_H_receiveReversal_16 : decode jc_H_receiveReversal 16 = .ok (.if_icmp .ne 23, 3) := by decide +kernel
theorem jd_H_receiveReversal_19 : decode jc_H_receiveReversal 19 = .ok (.aload_n 0, 1) := by decide +kernel
theorem jd_H_receiveReversal_20 : decode jc_H_receiveReversal 20 = .ok (.getfield 11, 3) := by decide +kernel
theorem jd_H_receiveReversal_23 : decode jc_H_receiveReversal 23 = .ok (.aload_n 0, 1) := by decide +kernel
theorem jd_H_receiveReversal_24 : decode jc_H_receiveReversal 24 = .ok (.getfield 21, 3) := by decide +kernel
theorem jd_H_receiveReversal_27 : decode jc_H_receiveReversal 27 = .ok (.iload_n 1, 1) := by decide +kernel
theorem jd_H_receiveReversal_28 : decode jc_H_receiveReversal 28 = .ok (.iaload, 1) := by decide +kernel
theorem jd_H_receiveReversal_29 : decode jc_H_receiveReversal 29 = .ok (.aaload, 1) := by decide +kernel
theorem jd_H_receiveReversal_30 : decode jc_H_receiveReversal 30 = .ok (.dup, 1) := by decide +kernel
theorem jd_H_receiveReversal_31 : decode jc_H_receiveReversal 31 = .ok (.getfield 44, 3) := by decide +kernel
theorem jd_H_receiveReversal_34 : decode jc_H_receiveReversal 34 = .ok (.iload_n 2, 1) := by decide +kernel
theorem jd_H_receiveReversal_35 : decode jc_H_receiveReversal 35 = .ok (.iadd, 1) := by decide +kernel
theorem jd_H_receiveReversal_36 : decode jc_H_receiveReversal 36 = .ok (.putfield 44, 3) := by decide +kernel
theorem jd_H_receiveReversal_39 : decode jc_H_receiveReversal 39 = .ok (.aload_n 0, 1) := by decide +kernel
theorem jd_H_receiveReversal_40 : decode jc_H_receiveReversal 40 = .ok (.getfield 24, 3) := by decide +kernel
theorem jd_H_receiveReversal_43 : decode jc_H_receiveReversal 43 = .ok (.iload_n 1, 1) := by decide +kernel
theorem jd_H_receiveReversal_44 : decode jc_H_receiveReversal 44 = .ok (.iconst 1, 1) := by decide +kernel
theorem jd_H_receiveReversal_45 : decode jc_H_receiveReversal 45 = .ok (.bastore, 1) := by decide +kernel
theorem jd_H_receiveReversal_46 : decode jc_H_receiveReversal 46 = .ok (.return_, 1) := by decide +kernel
theorem jd_R_dropFirst_0 : decode jc_R_dropFirst 0 = .ok (.aload_n 0, 1) := by decide +kernel
theorem jd_R_dropFirst_1 : decode jc_R_dropFirst 1 = .ok (.dup, 1) := by decide +kernel
theorem jd_R_dropFirst_2 : decode jc_R_dropFirst 2 = .ok (.getfield 18, 3) := by decide +kernel
theorem jd_R_dropFirst_5 : decode jc_R_dropFirst 5 = .ok (.iload_n 1, 1) := by decide +kernel
theorem jd_R_dropFirst_6 : decode jc_R_dropFirst 6 = .ok (.isub, 1) := by decide +kernel
theorem jd_R_dropFirst_7 : decode jc_R_dropFirst 7 = .ok (.putfield 18, 3) := by decide +kernel
theorem jd_R_dropFirst_10 : decode jc_R_dropFirst 10 = .ok (.aload_n 0, 1) := by decide +kernel
theorem jd_R_dropFirst_11 : decode jc_R_dropFirst 11 = .ok (.getfield 9, 3) := by decide +kernel
theorem jd_R_dropFirst_14 : decode jc_R_dropFirst 14 = .ok (.iload_n 1, 1) := by decide +kernel
theorem jd_R_dropFirst_15 : decode jc_R_dropFirst 15 = .ok (.aload_n 0, 1) := by decide +kernel
theorem jd_R_dropFirst_16 : decode jc_R_dropFirst 16 = .ok (.getfield 9, 3) := by decide +kernel
theorem jd_R_dropFirst_19 : decode jc_R_dropFirst 19 = .ok (.iconst 0, 1) := by decide +kernel
theorem jd_R_dropFirst_20 : decode jc_R_dropFirst 20 = .ok (.aload_n 0, 1) := by decide +kernel
theorem jd_R_dropFirst_21 : decode jc_R_dropFirst 21 = .ok (.getfield 18, 3) := by decide +kernel
theorem jd_R_dropFirst_24 : decode jc_R_dropFirst 24 = .ok (.invokestatic 22, 3) := by decide +kernel
theorem jd_R_dropFirst_27 : decode jc_R_dropFirst 27 = .ok (.aload_n 0, 1) := by decide +kernel
theorem jd_R_dropFirst_28 : decode jc_R_dropFirst 28 = .ok (.getfield 15, 3) := by decide +kernel
theorem jd_R_dropFirst_31 : decode jc_R_dropFirst 31 = .ok (.iload_n 1, 1) := by decide +kernel
theorem jd_R_dropFirst_32 : decode jc_R_dropFirst 32 = .ok (.aload_n 0, 1) := by decide +kernel
theorem jd_R_dropFirst_33 : decode jc_R_dropFirst 33 = .ok (.getfield 15, 3) := by decide +kernel
theorem jd_R_dropFirst_36 : decode jc_R_dropFirst 36 = .ok (.iconst 0, 1) := by decide +kernel
theorem jd_R_dropFirst_37 : decode jc_R_dropFirst 37 = .ok (.aload_n 0, 1) := by decide +kernel
theorem jd_R_dropFirst_38 : decode jc_R_dropFirst 38 = .ok (.getfield 18, 3) := by decide +kernel
theorem jd_R_dropFirst_41 : decode jc_R_dropFirst 41 = .ok (.invokestatic 22, 3) := by decide +kernel
theorem jd_R_dropFirst_44 : decode jc_R_dropFirst 44 = .ok (.return_, 1) := by decide +kernel
theorem jd_L_balance_0 : decode jc_L_balance 0 = .ok (.aload_n 2, 1) := by decide +kernel
theorem jd_L_balance_1 : decode jc_L_balance 1 = .ok (.iconst 0, 1) := by decide +kernel
theorem jd_L_balance_2 : decode jc_L_balance 2 = .ok (.aload_n 0, 1) := by decide +kernel
theorem jd_L_balance_3 : decode jc_L_balance 3 = .ok (.iload_n 1, 1) := by decide +kernel
theorem jd_L_balance_4 : decode jc_L_balance 4 = .ok (.invokevirtual 59, 3) := by decide +kernel
theorem jd_L_balance_7 : decode jc_L_balance 7 = .ok (.i2l, 1) := by decide +kernel
theorem jd_L_balance_8 : decode jc_L_balance 8 = .ok (.lastore, 1) := by decide +kernel
theorem jd_L_balance_9 : decode jc_L_balance 9 = .ok (.goto 6, 3) := by decide +kernel
theorem jd_L_balance_12 : decode jc_L_balance 12 = .ok (.astore_n 3, 1) := by decide +kernel
theorem jd_L_balance_13 : decode jc_L_balance 13 = .ok (.iconst 1, 1) := by decide +kernel
theorem jd_L_balance_14 : decode jc_L_balance 14 = .ok (.ireturn, 1) := by decide +kernel
theorem jd_L_balance_15 : decode jc_L_balance 15 = .ok (.iconst 0, 1) := by decide +kernel
theorem jd_L_balance_16 : decode jc_L_balance 16 = .ok (.ireturn, 1) := by decide +kernel
theorem jd_C_balance_0 : decode jc_C_balance 0 = .ok (.aload_n 0, 1) := by decide +kernel
theorem jd_C_balance_1 : decode jc_C_balance 1 = .ok (.getfield 10, 3) := by decide +kernel
theorem jd_C_balance_4 : decode jc_C_balance 4 = .ok (.iload_n 1, 1) := by decide +kernel
theorem jd_C_balance_5 : decode jc_C_balance 5 = .ok (.invokevirtual 66, 3) := by decide +kernel
theorem jd_C_balance_8 : decode jc_C_balance 8 = .ok (.ifCond .ne 11, 3) := by decide +kernel
theorem jd_C_balance_11 : decode jc_C_balance 11 = .ok (.new 85, 3) := by decide +kernel
theorem jd_C_balance_14 : decode jc_C_balance 14 = .ok (.dup, 1) := by decide +kernel
theorem jd_C_balance_15 : decode jc_C_balance 15 = .ok (.invokespecial 87, 3) := by decide +kernel
theorem jd_C_balance_18 : decode jc_C_balance 18 = .ok (.athrow, 1) := by decide +kernel
theorem jd_C_balance_19 : decode jc_C_balance 19 = .ok (.aload_n 0, 1) := by decide +kernel
theorem jd_C_balance_20 : decode jc_C_balance 20 = .ok (.getfield 10, 3) := by decide +kernel
theorem jd_C_balance_23 : decode jc_C_balance 23 = .ok (.getfield 88, 3) := by decide +kernel
theorem jd_C_balance_26 : decode jc_C_balance 26 = .ok (.iload_n 1, 1) := by decide +kernel
theorem jd_C_balance_27 : decode jc_C_balance 27 = .ok (.aaload, 1) := by decide +kernel
theorem jd_C_balance_28 : decode jc_C_balance 28 = .ok (.getfield 159, 3) := by decide +kernel
theorem jd_C_balance_31 : decode jc_C_balance 31 = .ok (.ireturn, 1) := by decide +kernel
theorem jd_L_trace_0 : decode jc_L_trace 0 = .ok (.aload_n 3, 1) := by decide +kernel
theorem jd_L_trace_1 : decode jc_L_trace 1 = .ok (.iconst 0, 1) := by decide +kernel
theorem jd_L_trace_2 : decode jc_L_trace 2 = .ok (.aload_n 0, 1) := by decide +kernel
theorem jd_L_trace_3 : decode jc_L_trace 3 = .ok (.iload_n 1, 1) := by decide +kernel
theorem jd_L_trace_4 : decode jc_L_trace 4 = .ok (.iload_n 2, 1) := by decide +kernel
theorem jd_L_trace_5 : decode jc_L_trace 5 = .ok (.invokevirtual 62, 3) := by decide +kernel
theorem jd_L_trace_8 : decode jc_L_trace 8 = .ok (.i2l, 1) := by decide +kernel
theorem jd_L_trace_9 : decode jc_L_trace 9 = .ok (.lastore, 1) := by decide +kernel
theorem jd_L_trace_10 : decode jc_L_trace 10 = .ok (.goto 11, 3) := by decide +kernel
theorem jd_L_trace_13 : decode jc_L_trace 13 = .ok (.astore 4, 2) := by decide +kernel
theorem jd_L_trace_15 : decode jc_L_trace 15 = .ok (.iconst 1, 1) := by decide +kernel
theorem jd_L_trace_16 : decode jc_L_trace 16 = .ok (.ireturn, 1) := by decide +kernel
theorem jd_L_trace_17 : decode jc_L_trace 17 = .ok (.astore 4, 2) := by decide +kernel
theorem jd_L_trace_19 : decode jc_L_trace 19 = .ok (.iconst 2, 1) := by decide +kernel
theorem jd_L_trace_20 : decode jc_L_trace 20 = .ok (.ireturn, 1) := by decide +kernel
theorem jd_L_trace_21 : decode jc_L_trace 21 = .ok (.iconst 0, 1) := by decide +kernel
theorem jd_L_trace_22 : decode jc_L_trace 22 = .ok (.ireturn, 1) := by decide +kernel
theorem jd_C_trace_0 : decode jc_C_trace 0 = .ok (.iload_n 1, 1) := by decide +kernel
theorem jd_C_trace_1 : decode jc_C_trace 1 = .ok (.iconst 1, 1) := by decide +kernel
theorem jd_C_trace_2 : decode jc_C_trace 2 = .ok (.aload_n 0, 1) := by decide +kernel
theorem jd_C_trace_3 : decode jc_C_trace 3 = .ok (.getfield 33, 3) := by decide +kernel
theorem jd_C_trace_6 : decode jc_C_trace 6 = .ok (.getfield 112, 3) := by decide +kernel
theorem jd_C_trace_9 : decode jc_C_trace 9 = .ok (.invokestatic 58, 3) := by decide +kernel
theorem jd_C_trace_12 : decode jc_C_trace 12 = .ok (.ifCond .ne 11, 3) := by decide +kernel
theorem jd_C_trace_15 : decode jc_C_trace 15 = .ok (.new 85, 3) := by decide +kernel
theorem jd_C_trace_18 : decode jc_C_trace 18 = .ok (.dup, 1) := by decide +kernel
theorem jd_C_trace_19 : decode jc_C_trace 19 = .ok (.invokespecial 87, 3) := by decide +kernel
theorem jd_C_trace_22 : decode jc_C_trace 22 = .ok (.athrow, 1) := by decide +kernel
theorem jd_C_trace_23 : decode jc_C_trace 23 = .ok (.aload_n 0, 1) := by decide +kernel
theorem jd_C_trace_24 : decode jc_C_trace 24 = .ok (.getfield 33, 3) := by decide +kernel
theorem jd_C_trace_27 : decode jc_C_trace 27 = .ok (.getfield 162, 3) := by decide +kernel
theorem jd_C_trace_30 : decode jc_C_trace 30 = .ok (.iload_n 1, 1) := by decide +kernel
theorem jd_C_trace_31 : decode jc_C_trace 31 = .ok (.iconst 1, 1) := by decide +kernel
theorem jd_C_trace_32 : decode jc_C_trace 32 = .ok (.isub, 1) := by decide +kernel
theorem jd_C_trace_33 : decode jc_C_trace 33 = .ok (.aaload, 1) := by decide +kernel
theorem jd_C_trace_34 : decode jc_C_trace 34 = .ok (.astore_n 3, 1) := by decide +kernel
theorem jd_C_trace_35 : decode jc_C_trace 35 = .ok (.iload_n 2, 1) := by decide +kernel
theorem jd_C_trace_36 : decode jc_C_trace 36 = .ok (.tableswitch 52 0 3 #[32, 37, 42, 47], 32) := by decide +kernel
theorem jd_C_trace_68 : decode jc_C_trace 68 = .ok (.aload_n 3, 1) := by decide +kernel
theorem jd_C_trace_69 : decode jc_C_trace 69 = .ok (.getfield 166, 3) := by decide +kernel
theorem jd_C_trace_72 : decode jc_C_trace 72 = .ok (.ireturn, 1) := by decide +kernel
theorem jd_C_trace_73 : decode jc_C_trace 73 = .ok (.aload_n 3, 1) := by decide +kernel
theorem jd_C_trace_74 : decode jc_C_trace 74 = .ok (.getfield 171, 3) := by decide +kernel
theorem jd_C_trace_77 : decode jc_C_trace 77 = .ok (.ireturn, 1) := by decide +kernel
theorem jd_C_trace_78 : decode jc_C_trace 78 = .ok (.aload_n 3, 1) := by decide +kernel
theorem jd_C_trace_79 : decode jc_C_trace 79 = .ok (.getfield 174, 3) := by decide +kernel
theorem jd_C_trace_82 : decode jc_C_trace 82 = .ok (.ireturn, 1) := by decide +kernel
theorem jd_C_trace_83 : decode jc_C_trace 83 = .ok (.aload_n 3, 1) := by decide +kernel
theorem jd_C_trace_84 : decode jc_C_trace 84 = .ok (.getfield 177, 3) := by decide +kernel
theorem jd_C_trace_87 : decode jc_C_trace 87 = .ok (.ireturn, 1) := by decide +kernel
theorem jd_C_trace_88 : decode jc_C_trace 88 = .ok (.new 63, 3) := by decide +kernel
theorem jd_C_trace_91 : decode jc_C_trace 91 = .ok (.dup, 1) := by decide +kernel
theorem jd_C_trace_92 : decode jc_C_trace 92 = .ok (.invokespecial 65, 3) := by decide +kernel
theorem jd_C_trace_95 : decode jc_C_trace 95 = .ok (.athrow, 1) := by decide +kernel
theorem jd_L_reversal_0 : decode jc_L_reversal 0 = .ok (.aload_n 2, 1) := by decide +kernel
theorem jd_L_reversal_1 : decode jc_L_reversal 1 = .ok (.iconst 0, 1) := by decide +kernel
theorem jd_L_reversal_2 : decode jc_L_reversal 2 = .ok (.aload_n 0, 1) := by decide +kernel
theorem jd_L_reversal_3 : decode jc_L_reversal 3 = .ok (.iload_n 1, 1) := by decide +kernel
theorem jd_L_reversal_4 : decode jc_L_reversal 4 = .ok (.invokevirtual 65, 3) := by decide +kernel
theorem jd_L_reversal_7 : decode jc_L_reversal 7 = .ok (.i2l, 1) := by decide +kernel
theorem jd_L_reversal_8 : decode jc_L_reversal 8 = .ok (.lastore, 1) := by decide +kernel
theorem jd_L_reversal_9 : decode jc_L_reversal 9 = .ok (.goto 6, 3) := by decide +kernel
theorem jd_L_reversal_12 : decode jc_L_reversal 12 = .ok (.astore_n 3, 1) := by decide +kernel
theorem jd_L_reversal_13 : decode jc_L_reversal 13 = .ok (.iconst 1, 1) := by decide +kernel
theorem jd_L_reversal_14 : decode jc_L_reversal 14 = .ok (.ireturn, 1) := by decide +kernel
theorem jd_L_reversal_15 : decode jc_L_reversal 15 = .ok (.iconst 0, 1) := by decide +kernel
theorem jd_L_reversal_16 : decode jc_L_reversal 16 = .ok (.ireturn, 1) := by decide +kernel
theorem jd_C_reversal_0 : decode jc_C_reversal 0 = .ok (.iload_n 1, 1) := by decide +kernel
theorem jd_C_reversal_1 : decode jc_C_reversal 1 = .ok (.iconst 0, 1) := by decide +kernel
theorem jd_C_reversal_2 : decode jc_C_reversal 2 = .ok (.aload_n 0, 1) := by decide +kernel
theorem jd_C_reversal_3 : decode jc_C_reversal 3 = .ok (.getfield 40, 3) := by decide +kernel
theorem jd_C_reversal_6 : decode jc_C_reversal 6 = .ok (.getfield 152, 3) := by decide +kernel
theorem jd_C_reversal_9 : decode jc_C_reversal 9 = .ok (.iconst 1, 1) := by decide +kernel
theorem jd_C_reversal_10 : decode jc_C_reversal 10 = .ok (.isub, 1) := by decide +kernel
theorem jd_C_reversal_11 : decode jc_C_reversal 11 = .ok (.invokestatic 58, 3) := by decide +kernel
theorem jd_C_reversal_14 : decode jc_C_reversal 14 = .ok (.ifCond .ne 11, 3) := by decide +kernel
theorem jd_C_reversal_17 : decode jc_C_reversal 17 = .ok (.new 85, 3) := by decide +kernel
theorem jd_C_reversal_20 : decode jc_C_reversal 20 = .ok (.dup, 1) := by decide +kernel
theorem jd_C_reversal_21 : decode jc_C_reversal 21 = .ok (.invokespecial 87, 3) := by decide +kernel
theorem jd_C_reversal_24 : decode jc_C_reversal 24 = .ok (.athrow, 1) := by decide +kernel
theorem jd_C_reversal_25 : decode jc_C_reversal 25 = .ok (.aload_n 0, 1) := by decide +kernel
theorem jd_C_reversal_26 : decode jc_C_reversal 26 = .ok (.getfield 40, 3) := by decide +kernel
theorem jd_C_reversal_29 : decode jc_C_reversal 29 = .ok (.getfield 180, 3) := by decide +kernel
theorem jd_C_reversal_32 : decode jc_C_reversal 32 = .ok (.iload_n 1, 1) := by decide +kernel
theorem jd_C_reversal_33 : decode jc_C_reversal 33 = .ok (.iaload, 1) := by decide +kernel
theorem jd_C_reversal_34 : decode jc_C_reversal 34 = .ok (.ireturn, 1) := by decide +kernel
theorem jd_L_notes_0 : decode jc_L_notes 0 = .ok (.aload_n 2, 1) := by decide +kernel
theorem jd_L_notes_1 : decode jc_L_notes 1 = .ok (.iconst 0, 1) := by decide +kernel
theorem jd_L_notes_2 : decode jc_L_notes 2 = .ok (.aload_n 0, 1) := by decide +kernel
theorem jd_L_notes_3 : decode jc_L_notes 3 = .ok (.iload_n 1, 1) := by decide +kernel
theorem jd_L_notes_4 : decode jc_L_notes 4 = .ok (.invokevirtual 68, 3) := by decide +kernel
theorem jd_L_notes_7 : decode jc_L_notes 7 = .ok (.i2l, 1) := by decide +kernel
theorem jd_L_notes_8 : decode jc_L_notes 8 = .ok (.lastore, 1) := by decide +kernel
theorem jd_L_notes_9 : decode jc_L_notes 9 = .ok (.goto 6, 3) := by decide +kernel
theorem jd_L_notes_12 : decode jc_L_notes 12 = .ok (.astore_n 3, 1) := by decide +kernel
theorem jd_L_notes_13 : decode jc_L_notes 13 = .ok (.iconst 1, 1) := by decide +kernel
theorem jd_L_notes_14 : decode jc_L_notes 14 = .ok (.ireturn, 1) := by decide +kernel
theorem jd_L_notes_15 : decode jc_L_notes 15 = .ok (.iconst 0, 1) := by decide +kernel
theorem jd_L_notes_16 : decode jc_L_notes 16 = .ok (.ireturn, 1) := by decide +kernel
theorem jd_C_notes_0 : decode jc_C_notes 0 = .ok (.iload_n 1, 1) := by decide +kernel
theorem jd_C_notes_1 : decode jc_C_notes 1 = .ok (.iconst 0, 1) := by decide +kernel
theorem jd_C_notes_2 : decode jc_C_notes 2 = .ok (.iconst 3, 1) := by decide +kernel
theorem jd_C_notes_3 : decode jc_C_notes 3 = .ok (.invokestatic 58, 3) := by decide +kernel
theorem jd_C_notes_6 : decode jc_C_notes 6 = .ok (.ifCond .ne 11, 3) := by decide +kernel
theorem jd_C_notes_9 : decode jc_C_notes 9 = .ok (.new 63, 3) := by decide +kernel
theorem jd_C_notes_12 : decode jc_C_notes 12 = .ok (.dup, 1) := by decide +kernel
theorem jd_C_notes_13 : decode jc_C_notes 13 = .ok (.invokespecial 65, 3) := by decide +kernel
theorem jd_C_notes_16 : decode jc_C_notes 16 = .ok (.athrow, 1) := by decide +kernel
theorem jd_C_notes_17 : decode jc_C_notes 17 = .ok (.aload_n 0, 1) := by decide +kernel
theorem jd_C_notes_18 : decode jc_C_notes 18 = .ok (.getfield 26, 3) := by decide +kernel
theorem jd_C_notes_21 : decode jc_C_notes 21 = .ok (.getfield 183, 3) := by decide +kernel
theorem jd_C_notes_24 : decode jc_C_notes 24 = .ok (.iload_n 1, 1) := by decide +kernel
theorem jd_C_notes_25 : decode jc_C_notes 25 = .ok (.aaload, 1) := by decide +kernel
theorem jd_C_notes_26 : decode jc_C_notes 26 = .ok (.getfield 187, 3) := by decide +kernel
theorem jd_C_notes_29 : decode jc_C_notes 29 = .ok (.ireturn, 1) := by decide +kernel
theorem jd_L_count_0 : decode jc_L_count 0 = .ok (.aload_n 2, 1) := by decide +kernel
theorem jd_L_count_1 : decode jc_L_count 1 = .ok (.iconst 0, 1) := by decide +kernel
theorem jd_L_count_2 : decode jc_L_count 2 = .ok (.aload_n 0, 1) := by decide +kernel
theorem jd_L_count_3 : decode jc_L_count 3 = .ok (.iload_n 1, 1) := by decide +kernel
theorem jd_L_count_4 : decode jc_L_count 4 = .ok (.invokevirtual 71, 3) := by decide +kernel
theorem jd_L_count_7 : decode jc_L_count 7 = .ok (.i2l, 1) := by decide +kernel
theorem jd_L_count_8 : decode jc_L_count 8 = .ok (.lastore, 1) := by decide +kernel
theorem jd_L_count_9 : decode jc_L_count 9 = .ok (.goto 6, 3) := by decide +kernel
theorem jd_L_count_12 : decode jc_L_count 12 = .ok (.astore_n 3, 1) := by decide +kernel
theorem jd_L_count_13 : decode jc_L_count 13 = .ok (.iconst 1, 1) := by decide +kernel
theorem jd_L_count_14 : decode jc_L_count 14 = .ok (.ireturn, 1) := by decide +kernel
theorem jd_L_count_15 : decode jc_L_count 15 = .ok (.iconst 0, 1) := by decide +kernel
theorem jd_L_count_16 : decode jc_L_count 16 = .ok (.ireturn, 1) := by decide +kernel
theorem jd_C_count_0 : decode jc_C_count 0 = .ok (.iload_n 1, 1) := by decide +kernel
theorem jd_C_count_1 : decode jc_C_count 1 = .ok (.tableswitch 118 0 7 #[47, 55, 63, 71, 84, 89, 102, 110], 47) := by decide +kernel
theorem jd_C_count_48 : decode jc_C_count 48 = .ok (.aload_n 0, 1) := by decide +kernel
theorem jd_C_count_49 : decode jc_C_count 49 = .ok (.getfield 33, 3) := by decide +kernel
theorem jd_C_count_52 : decode jc_C_count 52 = .ok (.getfield 112, 3) := by decide +kernel
theorem jd_C_count_55 : decode jc_C_count 55 = .ok (.ireturn, 1) := by decide +kernel
theorem jd_C_count_56 : decode jc_C_count 56 = .ok (.aload_n 0, 1) := by decide +kernel
theorem jd_C_count_57 : decode jc_C_count 57 = .ok (.getfield 40, 3) := by decide +kernel
theorem jd_C_count_60 : decode jc_C_count 60 = .ok (.getfield 152, 3) := by decide +kernel
theorem jd_C_count_63 : decode jc_C_count 63 = .ok (.ireturn, 1) := by decide +kernel
theorem jd_C_count_64 : decode jc_C_count 64 = .ok (.aload_n 0, 1) := by decide +kernel
theorem jd_C_count_65 : decode jc_C_count 65 = .ok (.getfield 19, 3) := by decide +kernel
theorem jd_C_count_68 : decode jc_C_count 68 = .ok (.getfield 136, 3) := by decide +kernel
theorem jd_C_count_71 : decode jc_C_count 71 = .ok (.ireturn, 1) := by decide +kernel
theorem jd_C_count_72 : decode jc_C_count 72 = .ok (.aload_n 0, 1) := by decide +kernel
theorem jd_C_count_73 : decode jc_C_count 73 = .ok (.getfield 44, 3) := by decide +kernel
theorem jd_C_count_76 : decode jc_C_count 76 = .ok (.ifCond .eq 7, 3) := by decide +kernel
theorem jd_C_count_79 : decode jc_C_count 79 = .ok (.iconst 1, 1) := by decide +kernel
theorem jd_C_count_80 : decode jc_C_count 80 = .ok (.goto 4, 3) := by decide +kernel
theorem jd_C_count_83 : decode jc_C_count 83 = .ok (.iconst 0, 1) := by decide +kernel
theorem jd_C_count_84 : decode jc_C_count 84 = .ok (.ireturn, 1) := by decide +kernel
theorem jd_C_count_85 : decode jc_C_count 85 = .ok (.aload_n 0, 1) := by decide +kernel
theorem jd_C_count_86 : decode jc_C_count 86 = .ok (.getfield 48, 3) := by decide +kernel
theorem jd_C_count_89 : decode jc_C_count 89 = .ok (.ireturn, 1) := by decide +kernel
theorem jd_C_count_90 : decode jc_C_count 90 = .ok (.aload_n 0, 1) := by decide +kernel
theorem jd_C_count_91 : decode jc_C_count 91 = .ok (.getfield 52, 3) := by decide +kernel
theorem jd_C_count_94 : decode jc_C_count 94 = .ok (.ifCond .eq 7, 3) := by decide +kernel
theorem jd_C_count_97 : decode jc_C_count 97 = .ok (.iconst 1, 1) := by decide +kernel
theorem jd_C_count_98 : decode jc_C_count 98 = .ok (.goto 4, 3) := by decide +kernel
theorem jd_C_count_101 : decode jc_C_count 101 = .ok (.iconst 0, 1) := by decide +kernel
theorem jd_C_count_102 : decode jc_C_count 102 = .ok (.ireturn, 1) := by decide +kernel
theorem jd_C_count_103 : decode jc_C_count 103 = .ok (.aload_n 0, 1) := by decide +kernel
theorem jd_C_count_104 : decode jc_C_count 104 = .ok (.getfield 26, 3) := by decide +kernel
theorem jd_C_count_107 : decode jc_C_count 107 = .ok (.getfield 195, 3) := by decide +kernel
theorem jd_C_count_110 : decode jc_C_count 110 = .ok (.ireturn, 1) := by decide +kernel
theorem jd_C_count_111 : decode jc_C_count 111 = .ok (.aload_n 0, 1) := by decide +kernel
theorem jd_C_count_112 : decode jc_C_count 112 = .ok (.getfield 10, 3) := by decide +kernel
theorem jd_C_count_115 : decode jc_C_count 115 = .ok (.invokevirtual 198, 3) := by decide +kernel
theorem jd_C_count_118 : decode jc_C_count 118 = .ok (.ireturn, 1) := by decide +kernel
theorem jd_C_count_119 : decode jc_C_count 119 = .ok (.new 63, 3) := by decide +kernel
theorem jd_C_count_122 : decode jc_C_count 122 = .ok (.dup, 1) := by decide +kernel
theorem jd_C_count_123 : decode jc_C_count 123 = .ok (.invokespecial 65, 3) := by decide +kernel
theorem jd_C_count_126 : decode jc_C_count 126 = .ok (.athrow, 1) := by decide +kernel
theorem jd_H_blockedAccounts_0 : decode jc_H_blockedAccounts 0 = .ok (.iconst 0, 1) := by decide +kernel
theorem jd_H_blockedAccounts_1 : decode jc_H_blockedAccounts 1 = .ok (.istore_n 1, 1) := by decide +kernel
theorem jd_H_blockedAccounts_2 : decode jc_H_blockedAccounts 2 = .ok (.aload_n 0, 1) := by decide +kernel
theorem jd_H_blockedAccounts_3 : decode jc_H_blockedAccounts 3 = .ok (.getfield 11, 3) := by decide +kernel
theorem jd_H_blockedAccounts_6 : decode jc_H_blockedAccounts 6 = .ok (.astore_n 2, 1) := by decide +kernel
theorem jd_H_blockedAccounts_7 : decode jc_H_blockedAccounts 7 = .ok (.aload_n 2, 1) := by decide +kernel
theorem jd_H_blockedAccounts_8 : decode jc_H_blockedAccounts 8 = .ok (.arraylength, 1) := by decide +kernel
theorem jd_H_blockedAccounts_9 : decode jc_H_blockedAccounts 9 = .ok (.istore_n 3, 1) := by decide +kernel
theorem jd_H_blockedAccounts_10 : decode jc_H_blockedAccounts 10 = .ok (.iconst 0, 1) := by decide +kernel
theorem jd_H_blockedAccounts_11 : decode jc_H_blockedAccounts 11 = .ok (.istore 4, 2) := by decide +kernel
theorem jd_H_blockedAccounts_13 : decode jc_H_blockedAccounts 13 = .ok (.iload 4, 2) := by decide +kernel
theorem jd_H_blockedAccounts_15 : decode jc_H_blockedAccounts 15 = .ok (.iload_n 3, 1) := by decide +kernel
theorem jd_H_blockedAccounts_16 : decode jc_H_blockedAccounts 16 = .ok (.if_icmp .ge 31, 3) := by decide +kernel
theorem jd_H_blockedAccounts_19 : decode jc_H_blockedAccounts 19 = .ok (.aload_n 2, 1) := by decide +kernel
theorem jd_H_blockedAccounts_20 : decode jc_H_blockedAccounts 20 = .ok (.iload 4, 2) := by decide +kernel
theorem jd_H_blockedAccounts_22 : decode jc_H_blockedAccounts 22 = .ok (.aaload, 1) := by decide +kernel
theorem jd_H_blockedAccounts_23 : decode jc_H_blockedAccounts 23 = .ok (.astore 5, 2) := by decide +kernel
theorem jd_H_blockedAccounts_25 : decode jc_H_blockedAccounts 25 = .ok (.iload_n 1, 1) := by decide +kernel
theorem jd_H_blockedAccounts_26 : decode jc_H_blockedAccounts 26 = .ok (.aload 5, 2) := by decide +kernel
theorem jd_H_blockedAccounts_28 : decode jc_H_blockedAccounts 28 = .ok (.getfield 51, 3) := by decide +kernel
theorem jd_H_blockedAccounts_31 : decode jc_H_blockedAccounts 31 = .ok (.ifCond .eq 7, 3) := by decide +kernel
theorem jd_H_blockedAccounts_34 : decode jc_H_blockedAccounts 34 = .ok (.iconst 1, 1) := by decide +kernel
theorem jd_H_blockedAccounts_35 : decode jc_H_blockedAccounts 35 = .ok (.goto 4, 3) := by decide +kernel
theorem jd_H_blockedAccounts_38 : decode jc_H_blockedAccounts 38 = .ok (.iconst 0, 1) := by decide +kernel
theorem jd_H_blockedAccounts_39 : decode jc_H_blockedAccounts 39 = .ok (.iadd, 1) := by decide +kernel
theorem jd_H_blockedAccounts_40 : decode jc_H_blockedAccounts 40 = .ok (.istore_n 1, 1) := by decide +kernel
theorem jd_H_blockedAccounts_41 : decode jc_H_blockedAccounts 41 = .ok (.iinc 4 1, 3) := by decide +kernel
theorem jd_H_blockedAccounts_44 : decode jc_H_blockedAccounts 44 = .ok (.goto (-31), 3) := by decide +kernel
theorem jd_H_blockedAccounts_47 : decode jc_H_blockedAccounts 47 = .ok (.iload_n 1, 1) := by decide +kernel
theorem jd_H_blockedAccounts_48 : decode jc_H_blockedAccounts 48 = .ok (.ireturn, 1) := by decide +kernel
theorem jd_M_init_0 : decode jc_M_init 0 = .ok (.aload_n 0, 1) := by decide +kernel
theorem jd_M_init_1 : decode jc_M_init 1 = .ok (.invokespecial 1, 3) := by decide +kernel
theorem jd_M_init_4 : decode jc_M_init 4 = .ok (.aload_n 0, 1) := by decide +kernel
theorem jd_M_init_5 : decode jc_M_init 5 = .ok (.bipush 8, 2) := by decide +kernel
theorem jd_M_init_7 : decode jc_M_init 7 = .ok (.newarray .boolean, 2) := by decide +kernel
theorem jd_M_init_9 : decode jc_M_init 9 = .ok (.putfield 7, 3) := by decide +kernel
theorem jd_M_init_12 : decode jc_M_init 12 = .ok (.aload_n 0, 1) := by decide +kernel
theorem jd_M_init_13 : decode jc_M_init 13 = .ok (.bipush 8, 2) := by decide +kernel
theorem jd_M_init_15 : decode jc_M_init 15 = .ok (.newarray .int, 2) := by decide +kernel
theorem jd_M_init_17 : decode jc_M_init 17 = .ok (.putfield 13, 3) := by decide +kernel
theorem jd_M_init_20 : decode jc_M_init 20 = .ok (.aload_n 0, 1) := by decide +kernel
theorem jd_M_init_21 : decode jc_M_init 21 = .ok (.bipush 8, 2) := by decide +kernel
theorem jd_M_init_23 : decode jc_M_init 23 = .ok (.newarray .int, 2) := by decide +kernel
theorem jd_M_init_25 : decode jc_M_init 25 = .ok (.putfield 17, 3) := by decide +kernel
theorem jd_M_init_28 : decode jc_M_init 28 = .ok (.aload_n 0, 1) := by decide +kernel
theorem jd_M_init_29 : decode jc_M_init 29 = .ok (.bipush 8, 2) := by decide +kernel
theorem jd_M_init_31 : decode jc_M_init 31 = .ok (.newarray .int, 2) := by decide +kernel
theorem jd_M_init_33 : decode jc_M_init 33 = .ok (.putfield 20, 3) := by decide +kernel
theorem jd_M_init_36 : decode jc_M_init 36 = .ok (.aload_n 0, 1) := by decide +kernel
theorem jd_M_init_37 : decode jc_M_init 37 = .ok (.bipush 8, 2) := by decide +kernel
theorem jd_M_init_39 : decode jc_M_init 39 = .ok (.newarray .int, 2) := by decide +kernel
theorem jd_M_init_41 : decode jc_M_init 41 = .ok (.putfield 23, 3) := by decide +kernel
theorem jd_M_init_44 : decode jc_M_init 44 = .ok (.aload_n 0, 1) := by decide +kernel
theorem jd_M_init_45 : decode jc_M_init 45 = .ok (.bipush 8, 2) := by decide +kernel
theorem jd_M_init_47 : decode jc_M_init 47 = .ok (.newarray .boolean, 2) := by decide +kernel
theorem jd_M_init_49 : decode jc_M_init 49 = .ok (.putfield 26, 3) := by decide +kernel
theorem jd_M_init_52 : decode jc_M_init 52 = .ok (.aload_n 0, 1) := by decide +kernel
theorem jd_M_init_53 : decode jc_M_init 53 = .ok (.iconst 4, 1) := by decide +kernel
theorem jd_M_init_54 : decode jc_M_init 54 = .ok (.newarray .int, 2) := by decide +kernel
theorem jd_M_init_56 : decode jc_M_init 56 = .ok (.dup, 1) := by decide +kernel
theorem jd_M_init_57 : decode jc_M_init 57 = .ok (.iconst 0, 1) := by decide +kernel
theorem jd_M_init_58 : decode jc_M_init 58 = .ok (.iconst 1, 1) := by decide +kernel
theorem jd_M_init_59 : decode jc_M_init 59 = .ok (.iastore, 1) := by decide +kernel
theorem jd_M_init_60 : decode jc_M_init 60 = .ok (.dup, 1) := by decide +kernel
theorem jd_M_init_61 : decode jc_M_init 61 = .ok (.iconst 1, 1) := by decide +kernel
theorem jd_M_init_62 : decode jc_M_init 62 = .ok (.iconst 1, 1) := by decide +kernel
theorem jd_M_init_63 : decode jc_M_init 63 = .ok (.iastore, 1) := by decide +kernel
theorem jd_M_init_64 : decode jc_M_init 64 = .ok (.dup, 1) := by decide +kernel
theorem jd_M_init_65 : decode jc_M_init 65 = .ok (.iconst 2, 1) := by decide +kernel
theorem jd_M_init_66 : decode jc_M_init 66 = .ok (.iconst 1, 1) := by decide +kernel
theorem jd_M_init_67 : decode jc_M_init 67 = .ok (.iastore, 1) := by decide +kernel
theorem jd_M_init_68 : decode jc_M_init 68 = .ok (.dup, 1) := by decide +kernel
theorem jd_M_init_69 : decode jc_M_init 69 = .ok (.iconst 3, 1) := by decide +kernel
theorem jd_M_init_70 : decode jc_M_init 70 = .ok (.iconst 1, 1) := by decide +kernel
theorem jd_M_init_71 : decode jc_M_init 71 = .ok (.iastore, 1) := by decide +kernel
theorem jd_M_init_72 : decode jc_M_init 72 = .ok (.putfield 29, 3) := by decide +kernel
theorem jd_M_init_75 : decode jc_M_init 75 = .ok (.aload_n 0, 1) := by decide +kernel
theorem jd_M_init_76 : decode jc_M_init 76 = .ok (.iconst 4, 1) := by decide +kernel
theorem jd_M_init_77 : decode jc_M_init 77 = .ok (.newarray .int, 2) := by decide +kernel
theorem jd_M_init_79 : decode jc_M_init 79 = .ok (.putfield 32, 3) := by decide +kernel
theorem jd_M_init_82 : decode jc_M_init 82 = .ok (.aload_n 0, 1) := by decide +kernel
theorem jd_M_init_83 : decode jc_M_init 83 = .ok (.iconst 4, 1) := by decide +kernel
theorem jd_M_init_84 : decode jc_M_init 84 = .ok (.newarray .int, 2) := by decide +kernel
theorem jd_M_init_86 : decode jc_M_init 86 = .ok (.putfield 35, 3) := by decide +kernel
theorem jd_M_init_89 : decode jc_M_init 89 = .ok (.aload_n 0, 1) := by decide +kernel
theorem jd_M_init_90 : decode jc_M_init 90 = .ok (.iconst (-1), 1) := by decide +kernel
theorem jd_M_init_91 : decode jc_M_init 91 = .ok (.putfield 38, 3) := by decide +kernel
theorem jd_M_init_94 : decode jc_M_init 94 = .ok (.aload_n 0, 1) := by decide +kernel
theorem jd_M_init_95 : decode jc_M_init 95 = .ok (.bipush 41, 2) := by decide +kernel
theorem jd_M_init_97 : decode jc_M_init 97 = .ok (.newarray .int, 2) := by decide +kernel
theorem jd_M_init_99 : decode jc_M_init 99 = .ok (.putfield 42, 3) := by decide +kernel
theorem jd_M_init_102 : decode jc_M_init 102 = .ok (.aload_n 0, 1) := by decide +kernel
theorem jd_M_init_103 : decode jc_M_init 103 = .ok (.bipush 41, 2) := by decide +kernel
theorem jd_M_init_105 : decode jc_M_init 105 = .ok (.newarray .int, 2) := by decide +kernel
theorem jd_M_init_107 : decode jc_M_init 107 = .ok (.putfield 45, 3) := by decide +kernel
theorem jd_M_init_110 : decode jc_M_init 110 = .ok (.aload_n 0, 1) := by decide +kernel
theorem jd_M_init_111 : decode jc_M_init 111 = .ok (.bipush 41, 2) := by decide +kernel
theorem jd_M_init_113 : decode jc_M_init 113 = .ok (.newarray .int, 2) := by decide +kernel
theorem jd_M_init_115 : decode jc_M_init 115 = .ok (.putfield 48, 3) := by decide +kernel
theorem jd_M_init_118 : decode jc_M_init 118 = .ok (.aload_n 0, 1) := by decide +kernel
theorem jd_M_init_119 : decode jc_M_init 119 = .ok (.bipush 41, 2) := by decide +kernel
theorem jd_M_init_121 : decode jc_M_init 121 = .ok (.newarray .int, 2) := by decide +kernel
theorem jd_M_init_123 : decode jc_M_init 123 = .ok (.putfield 51, 3) := by decide +kernel
theorem jd_M_init_126 : decode jc_M_init 126 = .ok (.aload_n 0, 1) := by decide +kernel
theorem jd_M_init_127 : decode jc_M_init 127 = .ok (.bipush 41, 2) := by decide +kernel
theorem jd_M_init_129 : decode jc_M_init 129 = .ok (.newarray .int, 2) := by decide +kernel
theorem jd_M_init_131 : decode jc_M_init 131 = .ok (.putfield 54, 3) := by decide +kernel
theorem jd_M_init_134 : decode jc_M_init 134 = .ok (.aload_n 0, 1) := by decide +kernel
theorem jd_M_init_135 : decode jc_M_init 135 = .ok (.bipush 41, 2) := by decide +kernel
theorem jd_M_init_137 : decode jc_M_init 137 = .ok (.newarray .boolean, 2) := by decide +kernel
theorem jd_M_init_139 : decode jc_M_init 139 = .ok (.putfield 57, 3) := by decide +kernel
theorem jd_M_init_142 : decode jc_M_init 142 = .ok (.aload_n 0, 1) := by decide +kernel
theorem jd_M_init_143 : decode jc_M_init 143 = .ok (.bipush 80, 2) := by decide +kernel
theorem jd_M_init_145 : decode jc_M_init 145 = .ok (.newarray .int, 2) := by decide +kernel
theorem jd_M_init_147 : decode jc_M_init 147 = .ok (.putfield 60, 3) := by decide +kernel
theorem jd_M_init_150 : decode jc_M_init 150 = .ok (.aload_n 0, 1) := by decide +kernel
theorem jd_M_init_151 : decode jc_M_init 151 = .ok (.bipush 80, 2) := by decide +kernel
theorem jd_M_init_153 : decode jc_M_init 153 = .ok (.newarray .int, 2) := by decide +kernel
theorem jd_M_init_155 : decode jc_M_init 155 = .ok (.putfield 63, 3) := by decide +kernel
theorem jd_M_init_158 : decode jc_M_init 158 = .ok (.aload_n 0, 1) := by decide +kernel
theorem jd_M_init_159 : decode jc_M_init 159 = .ok (.bipush 8, 2) := by decide +kernel
theorem jd_M_init_161 : decode jc_M_init 161 = .ok (.newarray .int, 2) := by decide +kernel
theorem jd_M_init_163 : decode jc_M_init 163 = .ok (.putfield 66, 3) := by decide +kernel
theorem jd_M_init_166 : decode jc_M_init 166 = .ok (.aload_n 0, 1) := by decide +kernel
theorem jd_M_init_167 : decode jc_M_init 167 = .ok (.iconst (-1), 1) := by decide +kernel
theorem jd_M_init_168 : decode jc_M_init 168 = .ok (.putfield 69, 3) := by decide +kernel
theorem jd_M_init_171 : decode jc_M_init 171 = .ok (.return_, 1) := by decide +kernel
theorem jd_M_thrown_0 : decode jc_M_thrown 0 = .ok (.aload_n 0, 1) := by decide +kernel
theorem jd_M_thrown_1 : decode jc_M_thrown 1 = .ok (.getfield 72, 3) := by decide +kernel
theorem jd_M_thrown_4 : decode jc_M_thrown 4 = .ok (.ireturn, 1) := by decide +kernel
theorem jd_M_open_0 : decode jc_M_open 0 = .ok (.aload_n 0, 1) := by decide +kernel
theorem jd_M_open_1 : decode jc_M_open 1 = .ok (.iconst 0, 1) := by decide +kernel
theorem jd_M_open_2 : decode jc_M_open 2 = .ok (.putfield 72, 3) := by decide +kernel
theorem jd_M_open_5 : decode jc_M_open 5 = .ok (.iload_n 1, 1) := by decide +kernel
theorem jd_M_open_6 : decode jc_M_open 6 = .ok (.iconst 0, 1) := by decide +kernel
theorem jd_M_open_7 : decode jc_M_open 7 = .ok (.bipush 7, 2) := by decide +kernel
theorem jd_M_open_9 : decode jc_M_open 9 = .ok (.invokestatic 75, 3) := by decide +kernel
theorem jd_M_open_12 : decode jc_M_open 12 = .ok (.ifCond .eq 24, 3) := by decide +kernel
theorem jd_M_open_15 : decode jc_M_open 15 = .ok (.iload_n 2, 1) := by decide +kernel
theorem jd_M_open_16 : decode jc_M_open 16 = .ok (.iconst 0, 1) := by decide +kernel
theorem jd_M_open_17 : decode jc_M_open 17 = .ok (.sipush 9999, 3) := by decide +kernel
theorem jd_M_open_20 : decode jc_M_open 20 = .ok (.invokestatic 75, 3) := by decide +kernel
theorem jd_M_open_23 : decode jc_M_open 23 = .ok (.ifCond .eq 13, 3) := by decide +kernel
theorem jd_M_open_26 : decode jc_M_open 26 = .ok (.iload_n 3, 1) := by decide +kernel
theorem jd_M_open_27 : decode jc_M_open 27 = .ok (.iconst 0, 1) := by decide +kernel
theorem jd_M_open_28 : decode jc_M_open 28 = .ok (.ldc 79, 2) := by decide +kernel
theorem jd_M_open_30 : decode jc_M_open 30 = .ok (.invokestatic 75, 3) := by decide +kernel
theorem jd_M_open_33 : decode jc_M_open 33 = .ok (.ifCond .ne 9, 3) := by decide +kernel
theorem jd_M_open_36 : decode jc_M_open 36 = .ok (.aload_n 0, 1) := by decide +kernel
theorem jd_M_open_37 : decode jc_M_open 37 = .ok (.iconst 1, 1) := by decide +kernel
theorem jd_M_open_38 : decode jc_M_open 38 = .ok (.invokevirtual 80, 3) := by decide +kernel
theorem jd_M_open_41 : decode jc_M_open 41 = .ok (.ireturn, 1) := by decide +kernel
theorem jd_M_open_42 : decode jc_M_open 42 = .ok (.aload_n 0, 1) := by decide +kernel
theorem jd_M_open_43 : decode jc_M_open 43 = .ok (.getfield 7, 3) := by decide +kernel
theorem jd_M_open_46 : decode jc_M_open 46 = .ok (.iload_n 1, 1) := by decide +kernel
theorem jd_M_open_47 : decode jc_M_open 47 = .ok (.baload, 1) := by decide +kernel
theorem jd_M_open_48 : decode jc_M_open 48 = .ok (.ifCond .eq 9, 3) := by decide +kernel
theorem jd_M_open_51 : decode jc_M_open 51 = .ok (.aload_n 0, 1) := by decide +kernel
theorem jd_M_open_52 : decode jc_M_open 52 = .ok (.iconst 2, 1) := by decide +kernel
theorem jd_M_open_53 : decode jc_M_open 53 = .ok (.invokevirtual 80, 3) := by decide +kernel
theorem jd_M_open_56 : decode jc_M_open 56 = .ok (.ireturn, 1) := by decide +kernel
theorem jd_M_open_57 : decode jc_M_open 57 = .ok (.aload_n 0, 1) := by decide +kernel
theorem jd_M_open_58 : decode jc_M_open 58 = .ok (.getfield 7, 3) := by decide +kernel
theorem jd_M_open_61 : decode jc_M_open 61 = .ok (.iload_n 1, 1) := by decide +kernel
theorem jd_M_open_62 : decode jc_M_open 62 = .ok (.iconst 1, 1) := by decide +kernel
theorem jd_M_open_63 : decode jc_M_open 63 = .ok (.bastore, 1) := by decide +kernel
theorem jd_M_open_64 : decode jc_M_open 64 = .ok (.aload_n 0, 1) := by decide +kernel
theorem jd_M_open_65 : decode jc_M_open 65 = .ok (.getfield 13, 3) := by decide +kernel
theorem jd_M_open_68 : decode jc_M_open 68 = .ok (.iload_n 1, 1) := by decide +kernel
theorem jd_M_open_69 : decode jc_M_open 69 = .ok (.iload_n 2, 1) := by decide +kernel
theorem jd_M_open_70 : decode jc_M_open 70 = .ok (.iastore, 1) := by decide +kernel
theorem jd_M_open_71 : decode jc_M_open 71 = .ok (.aload_n 0, 1) := by decide +kernel
theorem jd_M_open_72 : decode jc_M_open 72 = .ok (.getfield 17, 3) := by decide +kernel
theorem jd_M_open_75 : decode jc_M_open 75 = .ok (.iload_n 1, 1) := by decide +kernel
theorem jd_M_open_76 : decode jc_M_open 76 = .ok (.iload_n 3, 1) := by decide +kernel
theorem jd_M_open_77 : decode jc_M_open 77 = .ok (.iastore, 1) := by decide +kernel
theorem jd_M_open_78 : decode jc_M_open 78 = .ok (.aload_n 0, 1) := by decide +kernel
theorem jd_M_open_79 : decode jc_M_open 79 = .ok (.getfield 20, 3) := by decide +kernel
theorem jd_M_open_82 : decode jc_M_open 82 = .ok (.iload_n 1, 1) := by decide +kernel
theorem jd_M_open_83 : decode jc_M_open 83 = .ok (.iload_n 3, 1) := by decide +kernel
theorem jd_M_open_84 : decode jc_M_open 84 = .ok (.iastore, 1) := by decide +kernel
theorem jd_M_open_85 : decode jc_M_open 85 = .ok (.aload_n 0, 1) := by decide +kernel
theorem jd_M_open_86 : decode jc_M_open 86 = .ok (.getfield 23, 3) := by decide +kernel
theorem jd_M_open_89 : decode jc_M_open 89 = .ok (.iload_n 1, 1) := by decide +kernel
theorem jd_M_open_90 : decode jc_M_open 90 = .ok (.iconst 3, 1) := by decide +kernel
theorem jd_M_open_91 : decode jc_M_open 91 = .ok (.iastore, 1) := by decide +kernel
theorem jd_M_open_92 : decode jc_M_open 92 = .ok (.iconst 0, 1) := by decide +kernel
theorem jd_M_open_93 : decode jc_M_open 93 = .ok (.istore 4, 2) := by decide +kernel
theorem jd_M_open_95 : decode jc_M_open 95 = .ok (.iconst 0, 1) := by decide +kernel
theorem jd_M_open_96 : decode jc_M_open 96 = .ok (.istore 5, 2) := by decide +kernel
theorem jd_M_open_98 : decode jc_M_open 98 = .ok (.iload 5, 2) := by decide +kernel
theorem jd_M_open_100 : decode jc_M_open 100 = .ok (.bipush 8, 2) := by decide +kernel
theorem jd_M_open_102 : decode jc_M_open 102 = .ok (.if_icmp .ge 22, 3) := by decide +kernel
theorem jd_M_open_105 : decode jc_M_open 105 = .ok (.aload_n 0, 1) := by decide +kernel
theorem jd_M_open_106 : decode jc_M_open 106 = .ok (.getfield 7, 3) := by decide +kernel
theorem jd_M_open_109 : decode jc_M_open 109 = .ok (.iload 5, 2) := by decide +kernel
theorem jd_M_open_111 : decode jc_M_open 111 = .ok (.baload, 1) := by decide +kernel
theorem jd_M_open_112 : decode jc_M_open 112 = .ok (.ifCond .eq 6, 3) := by decide +kernel
theorem jd_M_open_115 : decode jc_M_open 115 = .ok (.iinc 4 1, 3) := by decide +kernel
theorem jd_M_open_118 : decode jc_M_open 118 = .ok (.iinc 5 1, 3) := by decide +kernel
theorem jd_M_open_121 : decode jc_M_open 121 = .ok (.goto (-23), 3) := by decide +kernel
theorem jd_M_open_124 : decode jc_M_open 124 = .ok (.iload 4, 2) := by decide +kernel
theorem jd_M_open_126 : decode jc_M_open 126 = .ok (.ireturn, 1) := by decide +kernel
theorem jd_M_in_0 : decode jc_M_in 0 = .ok (.iload_n 0, 1) := by decide +kernel
theorem jd_M_in_1 : decode jc_M_in 1 = .ok (.iload_n 1, 1) := by decide +kernel
theorem jd_M_in_2 : decode jc_M_in 2 = .ok (.if_icmp .lt 12, 3) := by decide +kernel
theorem jd_M_in_5 : decode jc_M_in 5 = .ok (.iload_n 0, 1) := by decide +kernel
theorem jd_M_in_6 : decode jc_M_in 6 = .ok (.iload_n 2, 1) := by decide +kernel
theorem jd_M_in_7 : decode jc_M_in 7 = .ok (.if_icmp .gt 7, 3) := by decide +kernel
theorem jd_M_in_10 : decode jc_M_in 10 = .ok (.iconst 1, 1) := by decide +kernel
theorem jd_M_in_11 : decode jc_M_in 11 = .ok (.goto 4, 3) := by decide +kernel
theorem jd_M_in_14 : decode jc_M_in 14 = .ok (.iconst 0, 1) := by decide +kernel
theorem jd_M_in_15 : decode jc_M_in 15 = .ok (.ireturn, 1) := by decide +kernel
theorem jd_M_fail_0 : decode jc_M_fail 0 = .ok (.aload_n 0, 1) := by decide +kernel
theorem jd_M_fail_1 : decode jc_M_fail 1 = .ok (.iload_n 1, 1) := by decide +kernel
theorem jd_M_fail_2 : decode jc_M_fail 2 = .ok (.putfield 72, 3) := by decide +kernel
theorem jd_M_fail_5 : decode jc_M_fail 5 = .ok (.iconst 0, 1) := by decide +kernel
theorem jd_M_fail_6 : decode jc_M_fail 6 = .ok (.ireturn, 1) := by decide +kernel
theorem jd_M_load_0 : decode jc_M_load 0 = .ok (.aload_n 0, 1) := by decide +kernel
theorem jd_M_load_1 : decode jc_M_load 1 = .ok (.iconst 0, 1) := by decide +kernel
theorem jd_M_load_2 : decode jc_M_load 2 = .ok (.putfield 72, 3) := by decide +kernel
theorem jd_M_load_5 : decode jc_M_load 5 = .ok (.iload_n 1, 1) := by decide +kernel
theorem jd_M_load_6 : decode jc_M_load 6 = .ok (.iconst 0, 1) := by decide +kernel
