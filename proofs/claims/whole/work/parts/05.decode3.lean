theorem jd_M_load_7 : decode jc_M_load 7 = .ok (.iconst 3, 1) := by decide +kernel
theorem jd_M_load_8 : decode jc_M_load 8 = .ok (.invokestatic 75, 3) := by decide +kernel
theorem jd_M_load_11 : decode jc_M_load 11 = .ok (.ifCond .eq 24, 3) := by decide +kernel
theorem jd_M_load_14 : decode jc_M_load 14 = .ok (.iload_n 2, 1) := by decide +kernel
theorem jd_M_load_15 : decode jc_M_load 15 = .ok (.iconst 1, 1) := by decide +kernel
theorem jd_M_load_16 : decode jc_M_load 16 = .ok (.sipush 500, 3) := by decide +kernel
theorem jd_M_load_19 : decode jc_M_load 19 = .ok (.invokestatic 75, 3) := by decide +kernel
theorem jd_M_load_22 : decode jc_M_load 22 = .ok (.ifCond .eq 13, 3) := by decide +kernel
theorem jd_M_load_25 : decode jc_M_load 25 = .ok (.iload_n 3, 1) := by decide +kernel
theorem jd_M_load_26 : decode jc_M_load 26 = .ok (.iconst 0, 1) := by decide +kernel
theorem jd_M_load_27 : decode jc_M_load 27 = .ok (.bipush 50, 2) := by decide +kernel
theorem jd_M_load_29 : decode jc_M_load 29 = .ok (.invokestatic 75, 3) := by decide +kernel
theorem jd_M_load_32 : decode jc_M_load 32 = .ok (.ifCond .ne 9, 3) := by decide +kernel
theorem jd_M_load_35 : decode jc_M_load 35 = .ok (.aload_n 0, 1) := by decide +kernel
theorem jd_M_load_36 : decode jc_M_load 36 = .ok (.iconst 1, 1) := by decide +kernel
theorem jd_M_load_37 : decode jc_M_load 37 = .ok (.invokevirtual 80, 3) := by decide +kernel
theorem jd_M_load_40 : decode jc_M_load 40 = .ok (.ireturn, 1) := by decide +kernel
theorem jd_M_load_41 : decode jc_M_load 41 = .ok (.aload_n 0, 1) := by decide +kernel
theorem jd_M_load_42 : decode jc_M_load 42 = .ok (.getfield 38, 3) := by decide +kernel
theorem jd_M_load_45 : decode jc_M_load 45 = .ok (.ifCond .lt 9, 3) := by decide +kernel
theorem jd_M_load_48 : decode jc_M_load 48 = .ok (.aload_n 0, 1) := by decide +kernel
theorem jd_M_load_49 : decode jc_M_load 49 = .ok (.iconst 2, 1) := by decide +kernel
theorem jd_M_load_50 : decode jc_M_load 50 = .ok (.invokevirtual 80, 3) := by decide +kernel
theorem jd_M_load_53 : decode jc_M_load 53 = .ok (.ireturn, 1) := by decide +kernel
theorem jd_M_load_54 : decode jc_M_load 54 = .ok (.aload_n 0, 1) := by decide +kernel
theorem jd_M_load_55 : decode jc_M_load 55 = .ok (.getfield 29, 3) := by decide +kernel
theorem jd_M_load_58 : decode jc_M_load 58 = .ok (.iload_n 1, 1) := by decide +kernel
theorem jd_M_load_59 : decode jc_M_load 59 = .ok (.iaload, 1) := by decide +kernel
theorem jd_M_load_60 : decode jc_M_load 60 = .ok (.aload_n 0, 1) := by decide +kernel
theorem jd_M_load_61 : decode jc_M_load 61 = .ok (.getfield 32, 3) := by decide +kernel
theorem jd_M_load_64 : decode jc_M_load 64 = .ok (.iload_n 1, 1) := by decide +kernel
theorem jd_M_load_65 : decode jc_M_load 65 = .ok (.iaload, 1) := by decide +kernel
theorem jd_M_load_66 : decode jc_M_load 66 = .ok (.imul, 1) := by decide +kernel
theorem jd_M_load_67 : decode jc_M_load 67 = .ok (.istore 4, 2) := by decide +kernel
theorem jd_M_load_69 : decode jc_M_load 69 = .ok (.aload_n 0, 1) := by decide +kernel
theorem jd_M_load_70 : decode jc_M_load 70 = .ok (.getfield 29, 3) := by decide +kernel
theorem jd_M_load_73 : decode jc_M_load 73 = .ok (.iload_n 1, 1) := by decide +kernel
theorem jd_M_load_74 : decode jc_M_load 74 = .ok (.iload_n 2, 1) := by decide +kernel
theorem jd_M_load_75 : decode jc_M_load 75 = .ok (.iastore, 1) := by decide +kernel
theorem jd_M_load_76 : decode jc_M_load 76 = .ok (.aload_n 0, 1) := by decide +kernel
theorem jd_M_load_77 : decode jc_M_load 77 = .ok (.getfield 32, 3) := by decide +kernel
theorem jd_M_load_80 : decode jc_M_load 80 = .ok (.iload_n 1, 1) := by decide +kernel
theorem jd_M_load_81 : decode jc_M_load 81 = .ok (.iload_n 3, 1) := by decide +kernel
theorem jd_M_load_82 : decode jc_M_load 82 = .ok (.iastore, 1) := by decide +kernel
theorem jd_M_load_83 : decode jc_M_load 83 = .ok (.iload 4, 2) := by decide +kernel
theorem jd_M_load_85 : decode jc_M_load 85 = .ok (.ireturn, 1) := by decide +kernel
theorem jd_M_insert_0 : decode jc_M_insert 0 = .ok (.aload_n 0, 1) := by decide +kernel
theorem jd_M_insert_1 : decode jc_M_insert 1 = .ok (.iconst 0, 1) := by decide +kernel
theorem jd_M_insert_2 : decode jc_M_insert 2 = .ok (.putfield 72, 3) := by decide +kernel
theorem jd_M_insert_5 : decode jc_M_insert 5 = .ok (.aload_n 0, 1) := by decide +kernel
theorem jd_M_insert_6 : decode jc_M_insert 6 = .ok (.getfield 84, 3) := by decide +kernel
theorem jd_M_insert_9 : decode jc_M_insert 9 = .ok (.ifCond .ne 10, 3) := by decide +kernel
theorem jd_M_insert_12 : decode jc_M_insert 12 = .ok (.aload_n 0, 1) := by decide +kernel
theorem jd_M_insert_13 : decode jc_M_insert 13 = .ok (.getfield 38, 3) := by decide +kernel
theorem jd_M_insert_16 : decode jc_M_insert 16 = .ok (.ifCond .lt 9, 3) := by decide +kernel
theorem jd_M_insert_19 : decode jc_M_insert 19 = .ok (.aload_n 0, 1) := by decide +kernel
theorem jd_M_insert_20 : decode jc_M_insert 20 = .ok (.iconst 1, 1) := by decide +kernel
theorem jd_M_insert_21 : decode jc_M_insert 21 = .ok (.invokevirtual 80, 3) := by decide +kernel
theorem jd_M_insert_24 : decode jc_M_insert 24 = .ok (.ireturn, 1) := by decide +kernel
theorem jd_M_insert_25 : decode jc_M_insert 25 = .ok (.iload_n 1, 1) := by decide +kernel
theorem jd_M_insert_26 : decode jc_M_insert 26 = .ok (.iconst 0, 1) := by decide +kernel
theorem jd_M_insert_27 : decode jc_M_insert 27 = .ok (.bipush 7, 2) := by decide +kernel
theorem jd_M_insert_29 : decode jc_M_insert 29 = .ok (.invokestatic 75, 3) := by decide +kernel
theorem jd_M_insert_32 : decode jc_M_insert 32 = .ok (.ifCond .eq 12, 3) := by decide +kernel
theorem jd_M_insert_35 : decode jc_M_insert 35 = .ok (.aload_n 0, 1) := by decide +kernel
theorem jd_M_insert_36 : decode jc_M_insert 36 = .ok (.getfield 7, 3) := by decide +kernel
theorem jd_M_insert_39 : decode jc_M_insert 39 = .ok (.iload_n 1, 1) := by decide +kernel
theorem jd_M_insert_40 : decode jc_M_insert 40 = .ok (.baload, 1) := by decide +kernel
theorem jd_M_insert_41 : decode jc_M_insert 41 = .ok (.ifCond .ne 9, 3) := by decide +kernel
theorem jd_M_insert_44 : decode jc_M_insert 44 = .ok (.aload_n 0, 1) := by decide +kernel
theorem jd_M_insert_45 : decode jc_M_insert 45 = .ok (.iconst 2, 1) := by decide +kernel
theorem jd_M_insert_46 : decode jc_M_insert 46 = .ok (.invokevirtual 80, 3) := by decide +kernel
theorem jd_M_insert_49 : decode jc_M_insert 49 = .ok (.ireturn, 1) := by decide +kernel
theorem jd_M_insert_50 : decode jc_M_insert 50 = .ok (.aload_n 0, 1) := by decide +kernel
theorem jd_M_insert_51 : decode jc_M_insert 51 = .ok (.getfield 26, 3) := by decide +kernel
theorem jd_M_insert_54 : decode jc_M_insert 54 = .ok (.iload_n 1, 1) := by decide +kernel
theorem jd_M_insert_55 : decode jc_M_insert 55 = .ok (.baload, 1) := by decide +kernel
theorem jd_M_insert_56 : decode jc_M_insert 56 = .ok (.ifCond .eq 9, 3) := by decide +kernel
theorem jd_M_insert_59 : decode jc_M_insert 59 = .ok (.aload_n 0, 1) := by decide +kernel
theorem jd_M_insert_60 : decode jc_M_insert 60 = .ok (.iconst 3, 1) := by decide +kernel
theorem jd_M_insert_61 : decode jc_M_insert 61 = .ok (.invokevirtual 80, 3) := by decide +kernel
theorem jd_M_insert_64 : decode jc_M_insert 64 = .ok (.ireturn, 1) := by decide +kernel
theorem jd_M_insert_65 : decode jc_M_insert 65 = .ok (.aload_n 0, 1) := by decide +kernel
theorem jd_M_insert_66 : decode jc_M_insert 66 = .ok (.iload_n 1, 1) := by decide +kernel
theorem jd_M_insert_67 : decode jc_M_insert 67 = .ok (.putfield 38, 3) := by decide +kernel
theorem jd_M_insert_70 : decode jc_M_insert 70 = .ok (.aload_n 0, 1) := by decide +kernel
theorem jd_M_insert_71 : decode jc_M_insert 71 = .ok (.iconst 0, 1) := by decide +kernel
theorem jd_M_insert_72 : decode jc_M_insert 72 = .ok (.putfield 88, 3) := by decide +kernel
theorem jd_M_insert_75 : decode jc_M_insert 75 = .ok (.aload_n 0, 1) := by decide +kernel
theorem jd_M_insert_76 : decode jc_M_insert 76 = .ok (.getfield 23, 3) := by decide +kernel
theorem jd_M_insert_79 : decode jc_M_insert 79 = .ok (.iload_n 1, 1) := by decide +kernel
theorem jd_M_insert_80 : decode jc_M_insert 80 = .ok (.iaload, 1) := by decide +kernel
theorem jd_M_insert_81 : decode jc_M_insert 81 = .ok (.ireturn, 1) := by decide +kernel
theorem jd_M_pin_0 : decode jc_M_pin 0 = .ok (.aload_n 0, 1) := by decide +kernel
theorem jd_M_pin_1 : decode jc_M_pin 1 = .ok (.iconst 0, 1) := by decide +kernel
theorem jd_M_pin_2 : decode jc_M_pin 2 = .ok (.putfield 72, 3) := by decide +kernel
theorem jd_M_pin_5 : decode jc_M_pin 5 = .ok (.aload_n 0, 1) := by decide +kernel
theorem jd_M_pin_6 : decode jc_M_pin 6 = .ok (.getfield 38, 3) := by decide +kernel
theorem jd_M_pin_9 : decode jc_M_pin 9 = .ok (.ifCond .lt 10, 3) := by decide +kernel
theorem jd_M_pin_12 : decode jc_M_pin 12 = .ok (.aload_n 0, 1) := by decide +kernel
theorem jd_M_pin_13 : decode jc_M_pin 13 = .ok (.getfield 88, 3) := by decide +kernel
theorem jd_M_pin_16 : decode jc_M_pin 16 = .ok (.ifCond .eq 9, 3) := by decide +kernel
theorem jd_M_pin_19 : decode jc_M_pin 19 = .ok (.aload_n 0, 1) := by decide +kernel
theorem jd_M_pin_20 : decode jc_M_pin 20 = .ok (.iconst 1, 1) := by decide +kernel
theorem jd_M_pin_21 : decode jc_M_pin 21 = .ok (.invokevirtual 80, 3) := by decide +kernel
theorem jd_M_pin_24 : decode jc_M_pin 24 = .ok (.ireturn, 1) := by decide +kernel
theorem jd_M_pin_25 : decode jc_M_pin 25 = .ok (.iload_n 1, 1) := by decide +kernel
theorem jd_M_pin_26 : decode jc_M_pin 26 = .ok (.aload_n 0, 1) := by decide +kernel
theorem jd_M_pin_27 : decode jc_M_pin 27 = .ok (.getfield 13, 3) := by decide +kernel
theorem jd_M_pin_30 : decode jc_M_pin 30 = .ok (.aload_n 0, 1) := by decide +kernel
theorem jd_M_pin_31 : decode jc_M_pin 31 = .ok (.getfield 38, 3) := by decide +kernel
theorem jd_M_pin_34 : decode jc_M_pin 34 = .ok (.iaload, 1) := by decide +kernel
theorem jd_M_pin_35 : decode jc_M_pin 35 = .ok (.if_icmp .ne 20, 3) := by decide +kernel
theorem jd_M_pin_38 : decode jc_M_pin 38 = .ok (.aload_n 0, 1) := by decide +kernel
theorem jd_M_pin_39 : decode jc_M_pin 39 = .ok (.iconst 1, 1) := by decide +kernel
theorem jd_M_pin_40 : decode jc_M_pin 40 = .ok (.putfield 88, 3) := by decide +kernel
theorem jd_M_pin_43 : decode jc_M_pin 43 = .ok (.aload_n 0, 1) := by decide +kernel
theorem jd_M_pin_44 : decode jc_M_pin 44 = .ok (.getfield 23, 3) := by decide +kernel
theorem jd_M_pin_47 : decode jc_M_pin 47 = .ok (.aload_n 0, 1) := by decide +kernel
theorem jd_M_pin_48 : decode jc_M_pin 48 = .ok (.getfield 38, 3) := by decide +kernel
theorem jd_M_pin_51 : decode jc_M_pin 51 = .ok (.iconst 3, 1) := by decide +kernel
theorem jd_M_pin_52 : decode jc_M_pin 52 = .ok (.iastore, 1) := by decide +kernel
theorem jd_M_pin_53 : decode jc_M_pin 53 = .ok (.iconst 3, 1) := by decide +kernel
theorem jd_M_pin_54 : decode jc_M_pin 54 = .ok (.ireturn, 1) := by decide +kernel
theorem jd_M_pin_55 : decode jc_M_pin 55 = .ok (.aload_n 0, 1) := by decide +kernel
theorem jd_M_pin_56 : decode jc_M_pin 56 = .ok (.getfield 23, 3) := by decide +kernel
theorem jd_M_pin_59 : decode jc_M_pin 59 = .ok (.aload_n 0, 1) := by decide +kernel
theorem jd_M_pin_60 : decode jc_M_pin 60 = .ok (.getfield 38, 3) := by decide +kernel
theorem jd_M_pin_63 : decode jc_M_pin 63 = .ok (.dup2, 1) := by decide +kernel
theorem jd_M_pin_64 : decode jc_M_pin 64 = .ok (.iaload, 1) := by decide +kernel
theorem jd_M_pin_65 : decode jc_M_pin 65 = .ok (.iconst 1, 1) := by decide +kernel
theorem jd_M_pin_66 : decode jc_M_pin 66 = .ok (.isub, 1) := by decide +kernel
theorem jd_M_pin_67 : decode jc_M_pin 67 = .ok (.iastore, 1) := by decide +kernel
theorem jd_M_pin_68 : decode jc_M_pin 68 = .ok (.aload_n 0, 1) := by decide +kernel
theorem jd_M_pin_69 : decode jc_M_pin 69 = .ok (.getfield 23, 3) := by decide +kernel
theorem jd_M_pin_72 : decode jc_M_pin 72 = .ok (.aload_n 0, 1) := by decide +kernel
theorem jd_M_pin_73 : decode jc_M_pin 73 = .ok (.getfield 38, 3) := by decide +kernel
theorem jd_M_pin_76 : decode jc_M_pin 76 = .ok (.iaload, 1) := by decide +kernel
theorem jd_M_pin_77 : decode jc_M_pin 77 = .ok (.istore_n 2, 1) := by decide +kernel
theorem jd_M_pin_78 : decode jc_M_pin 78 = .ok (.iload_n 2, 1) := by decide +kernel
theorem jd_M_pin_79 : decode jc_M_pin 79 = .ok (.ifCond .ne 18, 3) := by decide +kernel
theorem jd_M_pin_82 : decode jc_M_pin 82 = .ok (.aload_n 0, 1) := by decide +kernel
theorem jd_M_pin_83 : decode jc_M_pin 83 = .ok (.getfield 26, 3) := by decide +kernel
theorem jd_M_pin_86 : decode jc_M_pin 86 = .ok (.aload_n 0, 1) := by decide +kernel
theorem jd_M_pin_87 : decode jc_M_pin 87 = .ok (.getfield 38, 3) := by decide +kernel
theorem jd_M_pin_90 : decode jc_M_pin 90 = .ok (.iconst 1, 1) := by decide +kernel
theorem jd_M_pin_91 : decode jc_M_pin 91 = .ok (.bastore, 1) := by decide +kernel
theorem jd_M_pin_92 : decode jc_M_pin 92 = .ok (.aload_n 0, 1) := by decide +kernel
theorem jd_M_pin_93 : decode jc_M_pin 93 = .ok (.iconst (-1), 1) := by decide +kernel
theorem jd_M_pin_94 : decode jc_M_pin 94 = .ok (.putfield 38, 3) := by decide +kernel
theorem jd_M_pin_97 : decode jc_M_pin 97 = .ok (.iload_n 2, 1) := by decide +kernel
theorem jd_M_pin_98 : decode jc_M_pin 98 = .ok (.ireturn, 1) := by decide +kernel
theorem jd_M_eject_0 : decode jc_M_eject 0 = .ok (.aload_n 0, 1) := by decide +kernel
theorem jd_M_eject_1 : decode jc_M_eject 1 = .ok (.iconst 0, 1) := by decide +kernel
theorem jd_M_eject_2 : decode jc_M_eject 2 = .ok (.putfield 72, 3) := by decide +kernel
theorem jd_M_eject_5 : decode jc_M_eject 5 = .ok (.aload_n 0, 1) := by decide +kernel
theorem jd_M_eject_6 : decode jc_M_eject 6 = .ok (.getfield 38, 3) := by decide +kernel
theorem jd_M_eject_9 : decode jc_M_eject 9 = .ok (.ifCond .ge 9, 3) := by decide +kernel
theorem jd_M_eject_12 : decode jc_M_eject 12 = .ok (.aload_n 0, 1) := by decide +kernel
theorem jd_M_eject_13 : decode jc_M_eject 13 = .ok (.iconst 1, 1) := by decide +kernel
theorem jd_M_eject_14 : decode jc_M_eject 14 = .ok (.invokevirtual 80, 3) := by decide +kernel
theorem jd_M_eject_17 : decode jc_M_eject 17 = .ok (.ireturn, 1) := by decide +kernel
theorem jd_M_eject_18 : decode jc_M_eject 18 = .ok (.aload_n 0, 1) := by decide +kernel
theorem jd_M_eject_19 : decode jc_M_eject 19 = .ok (.getfield 38, 3) := by decide +kernel
theorem jd_M_eject_22 : decode jc_M_eject 22 = .ok (.istore_n 1, 1) := by decide +kernel
theorem jd_M_eject_23 : decode jc_M_eject 23 = .ok (.aload_n 0, 1) := by decide +kernel
theorem jd_M_eject_24 : decode jc_M_eject 24 = .ok (.iconst (-1), 1) := by decide +kernel
theorem jd_M_eject_25 : decode jc_M_eject 25 = .ok (.putfield 38, 3) := by decide +kernel
theorem jd_M_eject_28 : decode jc_M_eject 28 = .ok (.aload_n 0, 1) := by decide +kernel
theorem jd_M_eject_29 : decode jc_M_eject 29 = .ok (.iconst 0, 1) := by decide +kernel
theorem jd_M_eject_30 : decode jc_M_eject 30 = .ok (.putfield 88, 3) := by decide +kernel
theorem jd_M_eject_33 : decode jc_M_eject 33 = .ok (.iload_n 1, 1) := by decide +kernel
theorem jd_M_eject_34 : decode jc_M_eject 34 = .ok (.ireturn, 1) := by decide +kernel
theorem jd_M_withdraw_0 : decode jc_M_withdraw 0 = .ok (.aload_n 0, 1) := by decide +kernel
theorem jd_M_withdraw_1 : decode jc_M_withdraw 1 = .ok (.iconst 0, 1) := by decide +kernel
theorem jd_M_withdraw_2 : decode jc_M_withdraw 2 = .ok (.putfield 72, 3) := by decide +kernel
theorem jd_M_withdraw_5 : decode jc_M_withdraw 5 = .ok (.aload_n 0, 1) := by decide +kernel
theorem jd_M_withdraw_6 : decode jc_M_withdraw 6 = .ok (.getfield 38, 3) := by decide +kernel
theorem jd_M_withdraw_9 : decode jc_M_withdraw 9 = .ok (.ifCond .lt 10, 3) := by decide +kernel
theorem jd_M_withdraw_12 : decode jc_M_withdraw 12 = .ok (.aload_n 0, 1) := by decide +kernel
theorem jd_M_withdraw_13 : decode jc_M_withdraw 13 = .ok (.getfield 88, 3) := by decide +kernel
theorem jd_M_withdraw_16 : decode jc_M_withdraw 16 = .ok (.ifCond .ne 9, 3) := by decide +kernel
theorem jd_M_withdraw_19 : decode jc_M_withdraw 19 = .ok (.aload_n 0, 1) := by decide +kernel
theorem jd_M_withdraw_20 : decode jc_M_withdraw 20 = .ok (.iconst 1, 1) := by decide +kernel
theorem jd_M_withdraw_21 : decode jc_M_withdraw 21 = .ok (.invokevirtual 80, 3) := by decide +kernel
theorem jd_M_withdraw_24 : decode jc_M_withdraw 24 = .ok (.ireturn, 1) := by decide +kernel
theorem jd_M_withdraw_25 : decode jc_M_withdraw 25 = .ok (.iload_n 1, 1) := by decide +kernel
theorem jd_M_withdraw_26 : decode jc_M_withdraw 26 = .ok (.iconst 1, 1) := by decide +kernel
theorem jd_M_withdraw_27 : decode jc_M_withdraw 27 = .ok (.sipush 5000, 3) := by decide +kernel
theorem jd_M_withdraw_30 : decode jc_M_withdraw 30 = .ok (.invokestatic 75, 3) := by decide +kernel
theorem jd_M_withdraw_33 : decode jc_M_withdraw 33 = .ok (.ifCond .ne 9, 3) := by decide +kernel
theorem jd_M_withdraw_36 : decode jc_M_withdraw 36 = .ok (.aload_n 0, 1) := by decide +kernel
theorem jd_M_withdraw_37 : decode jc_M_withdraw 37 = .ok (.iconst 2, 1) := by decide +kernel
theorem jd_M_withdraw_38 : decode jc_M_withdraw 38 = .ok (.invokevirtual 80, 3) := by decide +kernel
theorem jd_M_withdraw_41 : decode jc_M_withdraw 41 = .ok (.ireturn, 1) := by decide +kernel
theorem jd_M_withdraw_42 : decode jc_M_withdraw 42 = .ok (.aload_n 0, 1) := by decide +kernel
theorem jd_M_withdraw_43 : decode jc_M_withdraw 43 = .ok (.iload_n 1, 1) := by decide +kernel
theorem jd_M_withdraw_44 : decode jc_M_withdraw 44 = .ok (.invokevirtual 146, 3) := by decide +kernel
theorem jd_M_withdraw_47 : decode jc_M_withdraw 47 = .ok (.ifCond .ne 9, 3) := by decide +kernel
theorem jd_M_withdraw_50 : decode jc_M_withdraw 50 = .ok (.aload_n 0, 1) := by decide +kernel
theorem jd_M_withdraw_51 : decode jc_M_withdraw 51 = .ok (.iconst 3, 1) := by decide +kernel
theorem jd_M_withdraw_52 : decode jc_M_withdraw 52 = .ok (.invokevirtual 80, 3) := by decide +kernel
theorem jd_M_withdraw_55 : decode jc_M_withdraw 55 = .ok (.ireturn, 1) := by decide +kernel
theorem jd_M_withdraw_56 : decode jc_M_withdraw 56 = .ok (.aload_n 0, 1) := by decide +kernel
theorem jd_M_withdraw_57 : decode jc_M_withdraw 57 = .ok (.getfield 149, 3) := by decide +kernel
theorem jd_M_withdraw_60 : decode jc_M_withdraw 60 = .ok (.bipush 40, 2) := by decide +kernel
theorem jd_M_withdraw_62 : decode jc_M_withdraw 62 = .ok (.if_icmp .ne 9, 3) := by decide +kernel
theorem jd_M_withdraw_65 : decode jc_M_withdraw 65 = .ok (.aload_n 0, 1) := by decide +kernel
theorem jd_M_withdraw_66 : decode jc_M_withdraw 66 = .ok (.iconst 4, 1) := by decide +kernel
theorem jd_M_withdraw_67 : decode jc_M_withdraw 67 = .ok (.invokevirtual 80, 3) := by decide +kernel
theorem jd_M_withdraw_70 : decode jc_M_withdraw 70 = .ok (.ireturn, 1) := by decide +kernel
theorem jd_M_withdraw_71 : decode jc_M_withdraw 71 = .ok (.aload_n 0, 1) := by decide +kernel
theorem jd_M_withdraw_72 : decode jc_M_withdraw 72 = .ok (.dup, 1) := by decide +kernel
theorem jd_M_withdraw_73 : decode jc_M_withdraw 73 = .ok (.getfield 149, 3) := by decide +kernel
theorem jd_M_withdraw_76 : decode jc_M_withdraw 76 = .ok (.iconst 1, 1) := by decide +kernel
theorem jd_M_withdraw_77 : decode jc_M_withdraw 77 = .ok (.iadd, 1) := by decide +kernel
theorem jd_M_withdraw_78 : decode jc_M_withdraw 78 = .ok (.putfield 149, 3) := by decide +kernel
theorem jd_M_withdraw_81 : decode jc_M_withdraw 81 = .ok (.aload_n 0, 1) := by decide +kernel
theorem jd_M_withdraw_82 : decode jc_M_withdraw 82 = .ok (.getfield 42, 3) := by decide +kernel
theorem jd_M_withdraw_85 : decode jc_M_withdraw 85 = .ok (.aload_n 0, 1) := by decide +kernel
theorem jd_M_withdraw_86 : decode jc_M_withdraw 86 = .ok (.getfield 149, 3) := by decide +kernel
theorem jd_M_withdraw_89 : decode jc_M_withdraw 89 = .ok (.iconst 1, 1) := by decide +kernel
theorem jd_M_withdraw_90 : decode jc_M_withdraw 90 = .ok (.iastore, 1) := by decide +kernel
theorem jd_M_withdraw_91 : decode jc_M_withdraw 91 = .ok (.aload_n 0, 1) := by decide +kernel
theorem jd_M_withdraw_92 : decode jc_M_withdraw 92 = .ok (.getfield 45, 3) := by decide +kernel
theorem jd_M_withdraw_95 : decode jc_M_withdraw 95 = .ok (.aload_n 0, 1) := by decide +kernel
theorem jd_M_withdraw_96 : decode jc_M_withdraw 96 = .ok (.getfield 149, 3) := by decide +kernel
theorem jd_M_withdraw_99 : decode jc_M_withdraw 99 = .ok (.aload_n 0, 1) := by decide +kernel
theorem jd_M_withdraw_100 : decode jc_M_withdraw 100 = .ok (.getfield 38, 3) := by decide +kernel
theorem jd_M_withdraw_103 : decode jc_M_withdraw 103 = .ok (.iastore, 1) := by decide +kernel
theorem jd_M_withdraw_104 : decode jc_M_withdraw 104 = .ok (.aload_n 0, 1) := by decide +kernel
theorem jd_M_withdraw_105 : decode jc_M_withdraw 105 = .ok (.getfield 48, 3) := by decide +kernel
theorem jd_M_withdraw_108 : decode jc_M_withdraw 108 = .ok (.aload_n 0, 1) := by decide +kernel
theorem jd_M_withdraw_109 : decode jc_M_withdraw 109 = .ok (.getfield 149, 3) := by decide +kernel
theorem jd_M_withdraw_112 : decode jc_M_withdraw 112 = .ok (.iload_n 1, 1) := by decide +kernel
theorem jd_M_withdraw_113 : decode jc_M_withdraw 113 = .ok (.iastore, 1) := by decide +kernel
theorem jd_M_withdraw_114 : decode jc_M_withdraw 114 = .ok (.aload_n 0, 1) := by decide +kernel
theorem jd_M_withdraw_115 : decode jc_M_withdraw 115 = .ok (.aload_n 0, 1) := by decide +kernel
theorem jd_M_withdraw_116 : decode jc_M_withdraw 116 = .ok (.getfield 149, 3) := by decide +kernel
theorem jd_M_withdraw_119 : decode jc_M_withdraw 119 = .ok (.invokevirtual 152, 3) := by decide +kernel
theorem jd_M_withdraw_122 : decode jc_M_withdraw 122 = .ok (.ireturn, 1) := by decide +kernel
theorem jd_M_mixed_0 : decode jc_M_mixed 0 = .ok (.iconst 0, 1) := by decide +kernel
theorem jd_M_mixed_1 : decode jc_M_mixed 1 = .ok (.istore_n 2, 1) := by decide +kernel
theorem jd_M_mixed_2 : decode jc_M_mixed 2 = .ok (.iconst 0, 1) := by decide +kernel
theorem jd_M_mixed_3 : decode jc_M_mixed 3 = .ok (.istore_n 3, 1) := by decide +kernel
theorem jd_M_mixed_4 : decode jc_M_mixed 4 = .ok (.iload_n 3, 1) := by decide +kernel
theorem jd_M_mixed_5 : decode jc_M_mixed 5 = .ok (.aload_n 0, 1) := by decide +kernel
theorem jd_M_mixed_6 : decode jc_M_mixed 6 = .ok (.getfield 32, 3) := by decide +kernel
theorem jd_M_mixed_9 : decode jc_M_mixed 9 = .ok (.iconst 0, 1) := by decide +kernel
theorem jd_M_mixed_10 : decode jc_M_mixed 10 = .ok (.iaload, 1) := by decide +kernel
theorem jd_M_mixed_11 : decode jc_M_mixed 11 = .ok (.if_icmp .gt 92, 3) := by decide +kernel
theorem jd_M_mixed_14 : decode jc_M_mixed 14 = .ok (.iload_n 3, 1) := by decide +kernel
theorem jd_M_mixed_15 : decode jc_M_mixed 15 = .ok (.aload_n 0, 1) := by decide +kernel
theorem jd_M_mixed_16 : decode jc_M_mixed 16 = .ok (.getfield 29, 3) := by decide +kernel
theorem jd_M_mixed_19 : decode jc_M_mixed 19 = .ok (.iconst 0, 1) := by decide +kernel
theorem jd_M_mixed_20 : decode jc_M_mixed 20 = .ok (.iaload, 1) := by decide +kernel
theorem jd_M_mixed_21 : decode jc_M_mixed 21 = .ok (.imul, 1) := by decide +kernel
theorem jd_M_mixed_22 : decode jc_M_mixed 22 = .ok (.iload_n 1, 1) := by decide +kernel
theorem jd_M_mixed_23 : decode jc_M_mixed 23 = .ok (.if_icmp .gt 80, 3) := by decide +kernel
theorem jd_M_mixed_26 : decode jc_M_mixed 26 = .ok (.iconst 0, 1) := by decide +kernel
theorem jd_M_mixed_27 : decode jc_M_mixed 27 = .ok (.istore 4, 2) := by decide +kernel
theorem jd_M_mixed_29 : decode jc_M_mixed 29 = .ok (.iload 4, 2) := by decide +kernel
theorem jd_M_mixed_31 : decode jc_M_mixed 31 = .ok (.aload_n 0, 1) := by decide +kernel
theorem jd_M_mixed_32 : decode jc_M_mixed 32 = .ok (.getfield 32, 3) := by decide +kernel
theorem jd_M_mixed_35 : decode jc_M_mixed 35 = .ok (.iconst 1, 1) := by decide +kernel
theorem jd_M_mixed_36 : decode jc_M_mixed 36 = .ok (.iaload, 1) := by decide +kernel
theorem jd_M_mixed_37 : decode jc_M_mixed 37 = .ok (.if_icmp .gt 60, 3) := by decide +kernel
theorem jd_M_mixed_40 : decode jc_M_mixed 40 = .ok (.iload_n 3, 1) := by decide +kernel
theorem jd_M_mixed_41 : decode jc_M_mixed 41 = .ok (.aload_n 0, 1) := by decide +kernel
theorem jd_M_mixed_42 : decode jc_M_mixed 42 = .ok (.getfield 29, 3) := by decide +kernel
theorem jd_M_mixed_45 : decode jc_M_mixed 45 = .ok (.iconst 0, 1) := by decide +kernel
theorem jd_M_mixed_46 : decode jc_M_mixed 46 = .ok (.iaload, 1) := by decide +kernel
theorem jd_M_mixed_47 : decode jc_M_mixed 47 = .ok (.imul, 1) := by decide +kernel
theorem jd_M_mixed_48 : decode jc_M_mixed 48 = .ok (.iload 4, 2) := by decide +kernel
theorem jd_M_mixed_50 : decode jc_M_mixed 50 = .ok (.aload_n 0, 1) := by decide +kernel
theorem jd_M_mixed_51 : decode jc_M_mixed 51 = .ok (.getfield 29, 3) := by decide +kernel
theorem jd_M_mixed_54 : decode jc_M_mixed 54 = .ok (.iconst 1, 1) := by decide +kernel
theorem jd_M_mixed_55 : decode jc_M_mixed 55 = .ok (.iaload, 1) := by decide +kernel
theorem jd_M_mixed_56 : decode jc_M_mixed 56 = .ok (.imul, 1) := by decide +kernel
theorem jd_M_mixed_57 : decode jc_M_mixed 57 = .ok (.iadd, 1) := by decide +kernel
theorem jd_M_mixed_58 : decode jc_M_mixed 58 = .ok (.iload_n 1, 1) := by decide +kernel
theorem jd_M_mixed_59 : decode jc_M_mixed 59 = .ok (.if_icmp .gt 38, 3) := by decide +kernel
theorem jd_M_mixed_62 : decode jc_M_mixed 62 = .ok (.aload_n 0, 1) := by decide +kernel
theorem jd_M_mixed_63 : decode jc_M_mixed 63 = .ok (.iload_n 1, 1) := by decide +kernel
theorem jd_M_mixed_64 : decode jc_M_mixed 64 = .ok (.iload_n 3, 1) := by decide +kernel
theorem jd_M_mixed_65 : decode jc_M_mixed 65 = .ok (.aload_n 0, 1) := by decide +kernel
theorem jd_M_mixed_66 : decode jc_M_mixed 66 = .ok (.getfield 29, 3) := by decide +kernel
theorem jd_M_mixed_69 : decode jc_M_mixed 69 = .ok (.iconst 0, 1) := by decide +kernel
theorem jd_M_mixed_70 : decode jc_M_mixed 70 = .ok (.iaload, 1) := by decide +kernel
theorem jd_M_mixed_71 : decode jc_M_mixed 71 = .ok (.imul, 1) := by decide +kernel
theorem jd_M_mixed_72 : decode jc_M_mixed 72 = .ok (.isub, 1) := by decide +kernel
theorem jd_M_mixed_73 : decode jc_M_mixed 73 = .ok (.iload 4, 2) := by decide +kernel
theorem jd_M_mixed_75 : decode jc_M_mixed 75 = .ok (.aload_n 0, 1) := by decide +kernel
theorem jd_M_mixed_76 : decode jc_M_mixed 76 = .ok (.getfield 29, 3) := by decide +kernel
theorem jd_M_mixed_79 : decode jc_M_mixed 79 = .ok (.iconst 1, 1) := by decide +kernel
theorem jd_M_mixed_80 : decode jc_M_mixed 80 = .ok (.iaload, 1) := by decide +kernel
theorem jd_M_mixed_81 : decode jc_M_mixed 81 = .ok (.imul, 1) := by decide +kernel
theorem jd_M_mixed_82 : decode jc_M_mixed 82 = .ok (.isub, 1) := by decide +kernel
theorem jd_M_mixed_83 : decode jc_M_mixed 83 = .ok (.iload_n 3, 1) := by decide +kernel
theorem jd_M_mixed_84 : decode jc_M_mixed 84 = .ok (.iload 4, 2) := by decide +kernel
theorem jd_M_mixed_86 : decode jc_M_mixed 86 = .ok (.iload_n 2, 1) := by decide +kernel
theorem jd_M_mixed_87 : decode jc_M_mixed 87 = .ok (.invokevirtual 99, 3) := by decide +kernel
theorem jd_M_mixed_90 : decode jc_M_mixed 90 = .ok (.istore_n 2, 1) := by decide +kernel
theorem jd_M_mixed_91 : decode jc_M_mixed 91 = .ok (.iinc 4 1, 3) := by decide +kernel
theorem jd_M_mixed_94 : decode jc_M_mixed 94 = .ok (.goto (-65), 3) := by decide +kernel
theorem jd_M_mixed_97 : decode jc_M_mixed 97 = .ok (.iinc 3 1, 3) := by decide +kernel
theorem jd_M_mixed_100 : decode jc_M_mixed 100 = .ok (.goto (-96), 3) := by decide +kernel
theorem jd_M_mixed_103 : decode jc_M_mixed 103 = .ok (.iload_n 2, 1) := by decide +kernel
theorem jd_M_mixed_104 : decode jc_M_mixed 104 = .ok (.ireturn, 1) := by decide +kernel
theorem jd_M_thirds_0 : decode jc_M_thirds 0 = .ok (.iload 4, 2) := by decide +kernel
theorem jd_M_thirds_2 : decode jc_M_thirds 2 = .ok (.istore 5, 2) := by decide +kernel
theorem jd_M_thirds_4 : decode jc_M_thirds 4 = .ok (.iconst 0, 1) := by decide +kernel
theorem jd_M_thirds_5 : decode jc_M_thirds 5 = .ok (.istore 6, 2) := by decide +kernel
theorem jd_M_thirds_7 : decode jc_M_thirds 7 = .ok (.iload 6, 2) := by decide +kernel
theorem jd_M_thirds_9 : decode jc_M_thirds 9 = .ok (.aload_n 0, 1) := by decide +kernel
theorem jd_M_thirds_10 : decode jc_M_thirds 10 = .ok (.getfield 32, 3) := by decide +kernel
theorem jd_M_thirds_13 : decode jc_M_thirds 13 = .ok (.iconst 2, 1) := by decide +kernel
theorem jd_M_thirds_14 : decode jc_M_thirds 14 = .ok (.iaload, 1) := by decide +kernel
theorem jd_M_thirds_15 : decode jc_M_thirds 15 = .ok (.if_icmp .gt 49, 3) := by decide +kernel
theorem jd_M_thirds_18 : decode jc_M_thirds 18 = .ok (.iload 6, 2) := by decide +kernel
theorem jd_M_thirds_20 : decode jc_M_thirds 20 = .ok (.aload_n 0, 1) := by decide +kernel
theorem jd_M_thirds_21 : decode jc_M_thirds 21 = .ok (.getfield 29, 3) := by decide +kernel
theorem jd_M_thirds_24 : decode jc_M_thirds 24 = .ok (.iconst 2, 1) := by decide +kernel
theorem jd_M_thirds_25 : decode jc_M_thirds 25 = .ok (.iaload, 1) := by decide +kernel
theorem jd_M_thirds_26 : decode jc_M_thirds 26 = .ok (.imul, 1) := by decide +kernel
theorem jd_M_thirds_27 : decode jc_M_thirds 27 = .ok (.iload_n 1, 1) := by decide +kernel
theorem jd_M_thirds_28 : decode jc_M_thirds 28 = .ok (.if_icmp .gt 36, 3) := by decide +kernel
theorem jd_M_thirds_31 : decode jc_M_thirds 31 = .ok (.aload_n 0, 1) := by decide +kernel
theorem jd_M_thirds_32 : decode jc_M_thirds 32 = .ok (.iload_n 1, 1) := by decide +kernel
theorem jd_M_thirds_33 : decode jc_M_thirds 33 = .ok (.iload 6, 2) := by decide +kernel
theorem jd_M_thirds_35 : decode jc_M_thirds 35 = .ok (.aload_n 0, 1) := by decide +kernel
theorem jd_M_thirds_36 : decode jc_M_thirds 36 = .ok (.getfield 29, 3) := by decide +kernel
theorem jd_M_thirds_39 : decode jc_M_thirds 39 = .ok (.iconst 2, 1) := by decide +kernel
theorem jd_M_thirds_40 : decode jc_M_thirds 40 = .ok (.iaload, 1) := by decide +kernel
theorem jd_M_thirds_41 : decode jc_M_thirds 41 = .ok (.imul, 1) := by decide +kernel
theorem jd_M_thirds_42 : decode jc_M_thirds 42 = .ok (.isub, 1) := by decide +kernel
theorem jd_M_thirds_43 : decode jc_M_thirds 43 = .ok (.iload_n 2, 1) := by decide +kernel
theorem jd_M_thirds_44 : decode jc_M_thirds 44 = .ok (.iload_n 3, 1) := by decide +kernel
theorem jd_M_thirds_45 : decode jc_M_thirds 45 = .ok (.iload 6, 2) := by decide +kernel
theorem jd_M_thirds_47 : decode jc_M_thirds 47 = .ok (.iload 5, 2) := by decide +kernel
theorem jd_M_thirds_49 : decode jc_M_thirds 49 = .ok (.invokevirtual 95, 3) := by decide +kernel
theorem jd_M_thirds_52 : decode jc_M_thirds 52 = .ok (.ifCond .eq 6, 3) := by decide +kernel
theorem jd_M_thirds_55 : decode jc_M_thirds 55 = .ok (.iconst 1, 1) := by decide +kernel
theorem jd_M_thirds_56 : decode jc_M_thirds 56 = .ok (.istore 5, 2) := by decide +kernel
theorem jd_M_thirds_58 : decode jc_M_thirds 58 = .ok (.iinc 6 1, 3) := by decide +kernel
theorem jd_M_thirds_61 : decode jc_M_thirds 61 = .ok (.goto (-54), 3) := by decide +kernel
theorem jd_M_thirds_64 : decode jc_M_thirds 64 = .ok (.iload 5, 2) := by decide +kernel
theorem jd_M_thirds_66 : decode jc_M_thirds 66 = .ok (.ireturn, 1) := by decide +kernel
theorem jd_M_better_0 : decode jc_M_better 0 = .ok (.iload_n 1, 1) := by decide +kernel
theorem jd_M_better_1 : decode jc_M_better 1 = .ok (.ifCond .lt 31, 3) := by decide +kernel
theorem jd_M_better_4 : decode jc_M_better 4 = .ok (.iload_n 1, 1) := by decide +kernel
theorem jd_M_better_5 : decode jc_M_better 5 = .ok (.aload_n 0, 1) := by decide +kernel
theorem jd_M_better_6 : decode jc_M_better 6 = .ok (.getfield 29, 3) := by decide +kernel
theorem jd_M_better_9 : decode jc_M_better 9 = .ok (.iconst 3, 1) := by decide +kernel
theorem jd_M_better_10 : decode jc_M_better 10 = .ok (.iaload, 1) := by decide +kernel
theorem jd_M_better_11 : decode jc_M_better 11 = .ok (.irem, 1) := by decide +kernel
theorem jd_M_better_12 : decode jc_M_better 12 = .ok (.ifCond .ne 20, 3) := by decide +kernel
theorem jd_M_better_15 : decode jc_M_better 15 = .ok (.iload_n 1, 1) := by decide +kernel
theorem jd_M_better_16 : decode jc_M_better 16 = .ok (.aload_n 0, 1) := by decide +kernel
theorem jd_M_better_17 : decode jc_M_better 17 = .ok (.getfield 29, 3) := by decide +kernel
theorem jd_M_better_20 : decode jc_M_better 20 = .ok (.iconst 3, 1) := by decide +kernel
theorem jd_M_better_21 : decode jc_M_better 21 = .ok (.iaload, 1) := by decide +kernel
theorem jd_M_better_22 : decode jc_M_better 22 = .ok (.idiv, 1) := by decide +kernel
theorem jd_M_better_23 : decode jc_M_better 23 = .ok (.aload_n 0, 1) := by decide +kernel
theorem jd_M_better_24 : decode jc_M_better 24 = .ok (.getfield 32, 3) := by decide +kernel
theorem jd_M_better_27 : decode jc_M_better 27 = .ok (.iconst 3, 1) := by decide +kernel
theorem jd_M_better_28 : decode jc_M_better 28 = .ok (.iaload, 1) := by decide +kernel
theorem jd_M_better_29 : decode jc_M_better 29 = .ok (.if_icmp .le 5, 3) := by decide +kernel
theorem jd_M_better_32 : decode jc_M_better 32 = .ok (.iconst 0, 1) := by decide +kernel
theorem jd_M_better_33 : decode jc_M_better 33 = .ok (.ireturn, 1) := by decide +kernel
theorem jd_M_better_34 : decode jc_M_better 34 = .ok (.aload_n 0, 1) := by decide +kernel
theorem jd_M_better_35 : decode jc_M_better 35 = .ok (.iload_n 2, 1) := by decide +kernel
theorem jd_M_better_36 : decode jc_M_better 36 = .ok (.iload_n 3, 1) := by decide +kernel
theorem jd_M_better_37 : decode jc_M_better 37 = .ok (.iload 4, 2) := by decide +kernel
theorem jd_M_better_39 : decode jc_M_better 39 = .ok (.iload_n 1, 1) := by decide +kernel
theorem jd_M_better_40 : decode jc_M_better 40 = .ok (.aload_n 0, 1) := by decide +kernel
theorem jd_M_better_41 : decode jc_M_better 41 = .ok (.getfield 29, 3) := by decide +kernel
theorem jd_M_better_44 : decode jc_M_better 44 = .ok (.iconst 3, 1) := by decide +kernel
theorem jd_M_better_45 : decode jc_M_better 45 = .ok (.iaload, 1) := by decide +kernel
theorem jd_M_better_46 : decode jc_M_better 46 = .ok (.idiv, 1) := by decide +kernel
theorem jd_M_better_47 : decode jc_M_better 47 = .ok (.invokevirtual 91, 3) := by decide +kernel
theorem jd_M_better_50 : decode jc_M_better 50 = .ok (.istore 6, 2) := by decide +kernel
theorem jd_M_better_52 : decode jc_M_better 52 = .ok (.aload_n 0, 1) := by decide +kernel
theorem jd_M_better_53 : decode jc_M_better 53 = .ok (.aload_n 0, 1) := by decide +kernel
theorem jd_M_better_54 : decode jc_M_better 54 = .ok (.getfield 35, 3) := by decide +kernel
theorem jd_M_better_57 : decode jc_M_better 57 = .ok (.iconst 0, 1) := by decide +kernel
theorem jd_M_better_58 : decode jc_M_better 58 = .ok (.iaload, 1) := by decide +kernel
theorem jd_M_better_59 : decode jc_M_better 59 = .ok (.aload_n 0, 1) := by decide +kernel
theorem jd_M_better_60 : decode jc_M_better 60 = .ok (.getfield 35, 3) := by decide +kernel
theorem jd_M_better_63 : decode jc_M_better 63 = .ok (.iconst 1, 1) := by decide +kernel
theorem jd_M_better_64 : decode jc_M_better 64 = .ok (.iaload, 1) := by decide +kernel
theorem jd_M_better_65 : decode jc_M_better 65 = .ok (.aload_n 0, 1) := by decide +kernel
theorem jd_M_better_66 : decode jc_M_better 66 = .ok (.getfield 35, 3) := by decide +kernel
theorem jd_M_better_69 : decode jc_M_better 69 = .ok (.iconst 2, 1) := by decide +kernel
theorem jd_M_better_70 : decode jc_M_better 70 = .ok (.iaload, 1) := by decide +kernel
theorem jd_M_better_71 : decode jc_M_better 71 = .ok (.aload_n 0, 1) := by decide +kernel
theorem jd_M_better_72 : decode jc_M_better 72 = .ok (.getfield 35, 3) := by decide +kernel
theorem jd_M_better_75 : decode jc_M_better 75 = .ok (.iconst 3, 1) := by decide +kernel
theorem jd_M_better_76 : decode jc_M_better 76 = .ok (.iaload, 1) := by decide +kernel
theorem jd_M_better_77 : decode jc_M_better 77 = .ok (.invokevirtual 91, 3) := by decide +kernel
theorem jd_M_better_80 : decode jc_M_better 80 = .ok (.istore 7, 2) := by decide +kernel
theorem jd_M_better_82 : decode jc_M_better 82 = .ok (.iload 5, 2) := by decide +kernel
theorem jd_M_better_84 : decode jc_M_better 84 = .ok (.ifCond .eq 12, 3) := by decide +kernel
theorem jd_M_better_87 : decode jc_M_better 87 = .ok (.iload 6, 2) := by decide +kernel
theorem jd_M_better_89 : decode jc_M_better 89 = .ok (.iload 7, 2) := by decide +kernel
theorem jd_M_better_91 : decode jc_M_better 91 = .ok (.if_icmp .le 5, 3) := by decide +kernel
theorem jd_M_better_94 : decode jc_M_better 94 = .ok (.iconst 0, 1) := by decide +kernel
theorem jd_M_better_95 : decode jc_M_better 95 = .ok (.ireturn, 1) := by decide +kernel
theorem jd_M_better_96 : decode jc_M_better 96 = .ok (.iload 5, 2) := by decide +kernel
theorem jd_M_better_98 : decode jc_M_better 98 = .ok (.ifCond .eq 69, 3) := by decide +kernel
theorem jd_M_better_101 : decode jc_M_better 101 = .ok (.iload 6, 2) := by decide +kernel
theorem jd_M_better_103 : decode jc_M_better 103 = .ok (.iload 7, 2) := by decide +kernel
theorem jd_M_better_105 : decode jc_M_better 105 = .ok (.if_icmp .ne 62, 3) := by decide +kernel
theorem jd_M_better_108 : decode jc_M_better 108 = .ok (.iload_n 2, 1) := by decide +kernel
theorem jd_M_better_109 : decode jc_M_better 109 = .ok (.aload_n 0, 1) := by decide +kernel
theorem jd_M_better_110 : decode jc_M_better 110 = .ok (.getfield 35, 3) := by decide +kernel
theorem jd_M_better_113 : decode jc_M_better 113 = .ok (.iconst 0, 1) := by decide +kernel
theorem jd_M_better_114 : decode jc_M_better 114 = .ok (.iaload, 1) := by decide +kernel
theorem jd_M_better_115 : decode jc_M_better 115 = .ok (.if_icmp .eq 16, 3) := by decide +kernel
theorem jd_M_better_118 : decode jc_M_better 118 = .ok (.iload_n 2, 1) := by decide +kernel
theorem jd_M_better_119 : decode jc_M_better 119 = .ok (.aload_n 0, 1) := by decide +kernel
theorem jd_M_better_120 : decode jc_M_better 120 = .ok (.getfield 35, 3) := by decide +kernel
theorem jd_M_better_123 : decode jc_M_better 123 = .ok (.iconst 0, 1) := by decide +kernel
theorem jd_M_better_124 : decode jc_M_better 124 = .ok (.iaload, 1) := by decide +kernel
theorem jd_M_better_125 : decode jc_M_better 125 = .ok (.if_icmp .ge 42, 3) := by decide +kernel
theorem jd_M_better_128 : decode jc_M_better 128 = .ok (.goto 37, 3) := by decide +kernel
theorem jd_M_better_131 : decode jc_M_better 131 = .ok (.iload_n 3, 1) := by decide +kernel
theorem jd_M_better_132 : decode jc_M_better 132 = .ok (.aload_n 0, 1) := by decide +kernel
theorem jd_M_better_133 : decode jc_M_better 133 = .ok (.getfield 35, 3) := by decide +kernel
theorem jd_M_better_136 : decode jc_M_better 136 = .ok (.iconst 1, 1) := by decide +kernel
theorem jd_M_better_137 : decode jc_M_better 137 = .ok (.iaload, 1) := by decide +kernel
theorem jd_M_better_138 : decode jc_M_better 138 = .ok (.if_icmp .eq 16, 3) := by decide +kernel
theorem jd_M_better_141 : decode jc_M_better 141 = .ok (.iload_n 3, 1) := by decide +kernel
theorem jd_M_better_142 : decode jc_M_better 142 = .ok (.aload_n 0, 1) := by decide +kernel
theorem jd_M_better_143 : decode jc_M_better 143 = .ok (.getfield 35, 3) := by decide +kernel
theorem jd_M_better_146 : decode jc_M_better 146 = .ok (.iconst 1, 1) := by decide +kernel
theorem jd_M_better_147 : decode jc_M_better 147 = .ok (.iaload, 1) := by decide +kernel
theorem jd_M_better_148 : decode jc_M_better 148 = .ok (.if_icmp .ge 19, 3) := by decide +kernel
theorem jd_M_better_151 : decode jc_M_better 151 = .ok (.goto 14, 3) := by decide +kernel
theorem jd_M_better_154 : decode jc_M_better 154 = .ok (.iload 4, 2) := by decide +kernel
theorem jd_M_better_156 : decode jc_M_better 156 = .ok (.aload_n 0, 1) := by decide +kernel
theorem jd_M_better_157 : decode jc_M_better 157 = .ok (.getfield 35, 3) := by decide +kernel
theorem jd_M_better_160 : decode jc_M_better 160 = .ok (.iconst 2, 1) := by decide +kernel
theorem jd_M_better_161 : decode jc_M_better 161 = .ok (.iaload, 1) := by decide +kernel
theorem jd_M_better_162 : decode jc_M_better 162 = .ok (.if_icmp .gt 5, 3) := by decide +kernel
theorem jd_M_better_165 : decode jc_M_better 165 = .ok (.iconst 0, 1) := by decide +kernel
theorem jd_M_better_166 : decode jc_M_better 166 = .ok (.ireturn, 1) := by decide +kernel
theorem jd_M_better_167 : decode jc_M_better 167 = .ok (.aload_n 0, 1) := by decide +kernel
theorem jd_M_better_168 : decode jc_M_better 168 = .ok (.getfield 35, 3) := by decide +kernel
theorem jd_M_better_171 : decode jc_M_better 171 = .ok (.iconst 0, 1) := by decide +kernel
theorem jd_M_better_172 : decode jc_M_better 172 = .ok (.iload_n 2, 1) := by decide +kernel
theorem jd_M_better_173 : decode jc_M_better 173 = .ok (.iastore, 1) := by decide +kernel
theorem jd_M_better_174 : decode jc_M_better 174 = .ok (.aload_n 0, 1) := by decide +kernel
theorem jd_M_better_175 : decode jc_M_better 175 = .ok (.getfield 35, 3) := by decide +kernel
theorem jd_M_better_178 : decode jc_M_better 178 = .ok (.iconst 1, 1) := by decide +kernel
theorem jd_M_better_179 : decode jc_M_better 179 = .ok (.iload_n 3, 1) := by decide +kernel
theorem jd_M_better_180 : decode jc_M_better 180 = .ok (.iastore, 1) := by decide +kernel
theorem jd_M_better_181 : decode jc_M_better 181 = .ok (.aload_n 0, 1) := by decide +kernel
theorem jd_M_better_182 : decode jc_M_better 182 = .ok (.getfield 35, 3) := by decide +kernel
theorem jd_M_better_185 : decode jc_M_better 185 = .ok (.iconst 2, 1) := by decide +kernel
theorem jd_M_better_186 : decode jc_M_better 186 = .ok (.iload 4, 2) := by decide +kernel
theorem jd_M_better_188 : decode jc_M_better 188 = .ok (.iastore, 1) := by decide +kernel
theorem jd_M_better_189 : decode jc_M_better 189 = .ok (.aload_n 0, 1) := by decide +kernel
theorem jd_M_better_190 : decode jc_M_better 190 = .ok (.getfield 35, 3) := by decide +kernel
theorem jd_M_better_193 : decode jc_M_better 193 = .ok (.iconst 3, 1) := by decide +kernel
theorem jd_M_better_194 : decode jc_M_better 194 = .ok (.iload_n 1, 1) := by decide +kernel
theorem jd_M_better_195 : decode jc_M_better 195 = .ok (.aload_n 0, 1) := by decide +kernel
theorem jd_M_better_196 : decode jc_M_better 196 = .ok (.getfield 29, 3) := by decide +kernel
theorem jd_M_better_199 : decode jc_M_better 199 = .ok (.iconst 3, 1) := by decide +kernel
theorem jd_M_better_200 : decode jc_M_better 200 = .ok (.iaload, 1) := by decide +kernel
theorem jd_M_better_201 : decode jc_M_better 201 = .ok (.idiv, 1) := by decide +kernel
theorem jd_M_better_202 : decode jc_M_better 202 = .ok (.iastore, 1) := by decide +kernel
theorem jd_M_better_203 : decode jc_M_better 203 = .ok (.iconst 1, 1) := by decide +kernel
theorem jd_M_better_204 : decode jc_M_better 204 = .ok (.ireturn, 1) := by decide +kernel
theorem jd_M_notesOf_0 : decode jc_M_notesOf 0 = .ok (.iload_n 1, 1) := by decide +kernel
theorem jd_M_notesOf_1 : decode jc_M_notesOf 1 = .ok (.iload_n 2, 1) := by decide +kernel
theorem jd_M_notesOf_2 : decode jc_M_notesOf 2 = .ok (.iadd, 1) := by decide +kernel
theorem jd_M_notesOf_3 : decode jc_M_notesOf 3 = .ok (.iload_n 3, 1) := by decide +kernel
theorem jd_M_notesOf_4 : decode jc_M_notesOf 4 = .ok (.iadd, 1) := by decide +kernel
theorem jd_M_notesOf_5 : decode jc_M_notesOf 5 = .ok (.iload 4, 2) := by decide +kernel
theorem jd_M_notesOf_7 : decode jc_M_notesOf 7 = .ok (.iadd, 1) := by decide +kernel
theorem jd_M_notesOf_8 : decode jc_M_notesOf 8 = .ok (.ireturn, 1) := by decide +kernel
theorem jd_M_give_0 : decode jc_M_give 0 = .ok (.aload_n 0, 1) := by decide +kernel
theorem jd_M_give_1 : decode jc_M_give 1 = .ok (.iconst 1, 1) := by decide +kernel
theorem jd_M_give_2 : decode jc_M_give 2 = .ok (.invokevirtual 128, 3) := by decide +kernel
theorem jd_M_give_5 : decode jc_M_give 5 = .ok (.ifCond .eq 6, 3) := by decide +kernel
theorem jd_M_give_8 : decode jc_M_give 8 = .ok (.bipush (-3), 2) := by decide +kernel
theorem jd_M_give_10 : decode jc_M_give 10 = .ok (.ireturn, 1) := by decide +kernel
theorem jd_M_give_11 : decode jc_M_give 11 = .ok (.aload_n 0, 1) := by decide +kernel
theorem jd_M_give_12 : decode jc_M_give 12 = .ok (.invokevirtual 132, 3) := by decide +kernel
theorem jd_M_give_15 : decode jc_M_give 15 = .ok (.istore_n 2, 1) := by decide +kernel
theorem jd_M_give_16 : decode jc_M_give 16 = .ok (.iload_n 2, 1) := by decide +kernel
theorem jd_M_give_17 : decode jc_M_give 17 = .ok (.iconst 1, 1) := by decide +kernel
theorem jd_M_give_18 : decode jc_M_give 18 = .ok (.if_icmp .eq 8, 3) := by decide +kernel
theorem jd_M_give_21 : decode jc_M_give 21 = .ok (.aload_n 0, 1) := by decide +kernel
theorem jd_M_give_22 : decode jc_M_give 22 = .ok (.iload_n 1, 1) := by decide +kernel
theorem jd_M_give_23 : decode jc_M_give 23 = .ok (.invokevirtual 136, 3) := by decide +kernel
theorem jd_M_give_26 : decode jc_M_give 26 = .ok (.iload_n 2, 1) := by decide +kernel
theorem jd_M_give_27 : decode jc_M_give 27 = .ok (.iconst 1, 1) := by decide +kernel
theorem jd_M_give_28 : decode jc_M_give 28 = .ok (.if_icmp .eq 8, 3) := by decide +kernel
theorem jd_M_give_31 : decode jc_M_give 31 = .ok (.iload_n 2, 1) := by decide +kernel
theorem jd_M_give_32 : decode jc_M_give 32 = .ok (.iconst 2, 1) := by decide +kernel
theorem jd_M_give_33 : decode jc_M_give 33 = .ok (.if_icmp .ne 24, 3) := by decide +kernel
theorem jd_M_give_36 : decode jc_M_give 36 = .ok (.aload_n 0, 1) := by decide +kernel
theorem jd_M_give_37 : decode jc_M_give 37 = .ok (.getfield 42, 3) := by decide +kernel
theorem jd_M_give_40 : decode jc_M_give 40 = .ok (.iload_n 1, 1) := by decide +kernel
theorem jd_M_give_41 : decode jc_M_give 41 = .ok (.iconst 4, 1) := by decide +kernel
theorem jd_M_give_42 : decode jc_M_give 42 = .ok (.iastore, 1) := by decide +kernel
theorem jd_M_give_43 : decode jc_M_give 43 = .ok (.aload_n 0, 1) := by decide +kernel
theorem jd_M_give_44 : decode jc_M_give 44 = .ok (.iload_n 1, 1) := by decide +kernel
theorem jd_M_give_45 : decode jc_M_give 45 = .ok (.aload_n 0, 1) := by decide +kernel
theorem jd_M_give_46 : decode jc_M_give 46 = .ok (.getfield 48, 3) := by decide +kernel
theorem jd_M_give_49 : decode jc_M_give 49 = .ok (.iload_n 1, 1) := by decide +kernel
theorem jd_M_give_50 : decode jc_M_give 50 = .ok (.iaload, 1) := by decide +kernel
theorem jd_M_give_51 : decode jc_M_give 51 = .ok (.invokevirtual 124, 3) := by decide +kernel
theorem jd_M_give_54 : decode jc_M_give 54 = .ok (.bipush (-2), 2) := by decide +kernel
theorem jd_M_give_56 : decode jc_M_give 56 = .ok (.ireturn, 1) := by decide +kernel
theorem jd_M_give_57 : decode jc_M_give 57 = .ok (.aload_n 0, 1) := by decide +kernel
theorem jd_M_give_58 : decode jc_M_give 58 = .ok (.getfield 54, 3) := by decide +kernel
theorem jd_M_give_61 : decode jc_M_give 61 = .ok (.iload_n 1, 1) := by decide +kernel
theorem jd_M_give_62 : decode jc_M_give 62 = .ok (.iaload, 1) := by decide +kernel
theorem jd_M_give_63 : decode jc_M_give 63 = .ok (.iconst 2, 1) := by decide +kernel
theorem jd_M_give_64 : decode jc_M_give 64 = .ok (.if_icmp .ne 12, 3) := by decide +kernel
theorem jd_M_give_67 : decode jc_M_give 67 = .ok (.aload_n 0, 1) := by decide +kernel
theorem jd_M_give_68 : decode jc_M_give 68 = .ok (.getfield 42, 3) := by decide +kernel
theorem jd_M_give_71 : decode jc_M_give 71 = .ok (.iload_n 1, 1) := by decide +kernel
theorem jd_M_give_72 : decode jc_M_give 72 = .ok (.iconst 4, 1) := by decide +kernel
theorem jd_M_give_73 : decode jc_M_give 73 = .ok (.iastore, 1) := by decide +kernel
theorem jd_M_give_74 : decode jc_M_give 74 = .ok (.iconst (-1), 1) := by decide +kernel
theorem jd_M_give_75 : decode jc_M_give 75 = .ok (.ireturn, 1) := by decide +kernel
theorem jd_M_give_76 : decode jc_M_give 76 = .ok (.aload_n 0, 1) := by decide +kernel
theorem jd_M_give_77 : decode jc_M_give 77 = .ok (.iconst 2, 1) := by decide +kernel
theorem jd_M_give_78 : decode jc_M_give 78 = .ok (.invokevirtual 128, 3) := by decide +kernel
theorem jd_M_give_81 : decode jc_M_give 81 = .ok (.ifCond .eq 6, 3) := by decide +kernel
theorem jd_M_give_84 : decode jc_M_give 84 = .ok (.bipush (-3), 2) := by decide +kernel
theorem jd_M_give_86 : decode jc_M_give 86 = .ok (.ireturn, 1) := by decide +kernel
theorem jd_M_give_87 : decode jc_M_give 87 = .ok (.aload_n 0, 1) := by decide +kernel
theorem jd_M_give_88 : decode jc_M_give 88 = .ok (.getfield 42, 3) := by decide +kernel
theorem jd_M_give_91 : decode jc_M_give 91 = .ok (.iload_n 1, 1) := by decide +kernel
theorem jd_M_give_92 : decode jc_M_give 92 = .ok (.iconst 2, 1) := by decide +kernel
theorem jd_M_give_93 : decode jc_M_give 93 = .ok (.iastore, 1) := by decide +kernel
theorem jd_M_give_94 : decode jc_M_give 94 = .ok (.aload_n 0, 1) := by decide +kernel
theorem jd_M_give_95 : decode jc_M_give 95 = .ok (.iconst 3, 1) := by decide +kernel
theorem jd_M_give_96 : decode jc_M_give 96 = .ok (.invokevirtual 128, 3) := by decide +kernel
theorem jd_M_give_99 : decode jc_M_give 99 = .ok (.ifCond .eq 6, 3) := by decide +kernel
theorem jd_M_give_102 : decode jc_M_give 102 = .ok (.bipush (-3), 2) := by decide +kernel
theorem jd_M_give_104 : decode jc_M_give 104 = .ok (.ireturn, 1) := by decide +kernel
theorem jd_M_give_105 : decode jc_M_give 105 = .ok (.aload_n 0, 1) := by decide +kernel
theorem jd_M_give_106 : decode jc_M_give 106 = .ok (.iload_n 1, 1) := by decide +kernel
theorem jd_M_give_107 : decode jc_M_give 107 = .ok (.invokevirtual 140, 3) := by decide +kernel
theorem jd_M_give_110 : decode jc_M_give 110 = .ok (.aload_n 0, 1) := by decide +kernel
theorem jd_M_give_111 : decode jc_M_give 111 = .ok (.iconst 4, 1) := by decide +kernel
theorem jd_M_give_112 : decode jc_M_give 112 = .ok (.invokevirtual 128, 3) := by decide +kernel
theorem jd_M_give_115 : decode jc_M_give 115 = .ok (.ifCond .eq 6, 3) := by decide +kernel
theorem jd_M_give_118 : decode jc_M_give 118 = .ok (.bipush (-3), 2) := by decide +kernel
theorem jd_M_give_120 : decode jc_M_give 120 = .ok (.ireturn, 1) := by decide +kernel
theorem jd_M_give_121 : decode jc_M_give 121 = .ok (.aload_n 0, 1) := by decide +kernel
theorem jd_M_give_122 : decode jc_M_give 122 = .ok (.iload_n 1, 1) := by decide +kernel
theorem jd_M_give_123 : decode jc_M_give 123 = .ok (.aload_n 0, 1) := by decide +kernel
theorem jd_M_give_124 : decode jc_M_give 124 = .ok (.getfield 118, 3) := by decide +kernel
theorem jd_M_give_127 : decode jc_M_give 127 = .ok (.invokevirtual 143, 3) := by decide +kernel
theorem jd_M_give_130 : decode jc_M_give 130 = .ok (.aload_n 0, 1) := by decide +kernel
theorem jd_M_give_131 : decode jc_M_give 131 = .ok (.getfield 118, 3) := by decide +kernel
theorem jd_M_give_134 : decode jc_M_give 134 = .ok (.ireturn, 1) := by decide +kernel
theorem jd_M_cut_0 : decode jc_M_cut 0 = .ok (.aload_n 0, 1) := by decide +kernel
theorem jd_M_cut_1 : decode jc_M_cut 1 = .ok (.getfield 109, 3) := by decide +kernel
theorem jd_M_cut_4 : decode jc_M_cut 4 = .ok (.iload_n 1, 1) := by decide +kernel
theorem jd_M_cut_5 : decode jc_M_cut 5 = .ok (.if_icmp .eq 5, 3) := by decide +kernel
theorem jd_M_cut_8 : decode jc_M_cut 8 = .ok (.iconst 0, 1) := by decide +kernel
theorem jd_M_cut_9 : decode jc_M_cut 9 = .ok (.ireturn, 1) := by decide +kernel
theorem jd_M_cut_10 : decode jc_M_cut 10 = .ok (.aload_n 0, 1) := by decide +kernel
theorem jd_M_cut_11 : decode jc_M_cut 11 = .ok (.iconst 0, 1) := by decide +kernel
theorem jd_M_cut_12 : decode jc_M_cut 12 = .ok (.putfield 109, 3) := by decide +kernel
theorem jd_M_cut_15 : decode jc_M_cut 15 = .ok (.aload_n 0, 1) := by decide +kernel
theorem jd_M_cut_16 : decode jc_M_cut 16 = .ok (.iconst 1, 1) := by decide +kernel
theorem jd_M_cut_17 : decode jc_M_cut 17 = .ok (.putfield 84, 3) := by decide +kernel
theorem jd_M_cut_20 : decode jc_M_cut 20 = .ok (.aload_n 0, 1) := by decide +kernel
theorem jd_M_cut_21 : decode jc_M_cut 21 = .ok (.iconst (-1), 1) := by decide +kernel
theorem jd_M_cut_22 : decode jc_M_cut 22 = .ok (.putfield 38, 3) := by decide +kernel
theorem jd_M_cut_25 : decode jc_M_cut 25 = .ok (.aload_n 0, 1) := by decide +kernel
theorem jd_M_cut_26 : decode jc_M_cut 26 = .ok (.iconst 0, 1) := by decide +kernel
theorem jd_M_cut_27 : decode jc_M_cut 27 = .ok (.putfield 88, 3) := by decide +kernel
theorem jd_M_cut_30 : decode jc_M_cut 30 = .ok (.iconst 1, 1) := by decide +kernel
theorem jd_M_cut_31 : decode jc_M_cut 31 = .ok (.ireturn, 1) := by decide +kernel
theorem jd_M_fate_0 : decode jc_M_fate 0 = .ok (.aload_n 0, 1) := by decide +kernel
theorem jd_M_fate_1 : decode jc_M_fate 1 = .ok (.getfield 103, 3) := by decide +kernel
theorem jd_M_fate_4 : decode jc_M_fate 4 = .ok (.ifCond .ne 5, 3) := by decide +kernel
theorem jd_M_fate_7 : decode jc_M_fate 7 = .ok (.iconst 0, 1) := by decide +kernel
theorem jd_M_fate_8 : decode jc_M_fate 8 = .ok (.ireturn, 1) := by decide +kernel
theorem jd_M_fate_9 : decode jc_M_fate 9 = .ok (.aload_n 0, 1) := by decide +kernel
theorem jd_M_fate_10 : decode jc_M_fate 10 = .ok (.getfield 66, 3) := by decide +kernel
theorem jd_M_fate_13 : decode jc_M_fate 13 = .ok (.iconst 0, 1) := by decide +kernel
theorem jd_M_fate_14 : decode jc_M_fate 14 = .ok (.iaload, 1) := by decide +kernel
theorem jd_M_fate_15 : decode jc_M_fate 15 = .ok (.istore_n 1, 1) := by decide +kernel
theorem jd_M_fate_16 : decode jc_M_fate 16 = .ok (.aload_n 0, 1) := by decide +kernel
theorem jd_M_fate_17 : decode jc_M_fate 17 = .ok (.dup, 1) := by decide +kernel
theorem jd_M_fate_18 : decode jc_M_fate 18 = .ok (.getfield 103, 3) := by decide +kernel
theorem jd_M_fate_21 : decode jc_M_fate 21 = .ok (.iconst 1, 1) := by decide +kernel
theorem jd_M_fate_22 : decode jc_M_fate 22 = .ok (.isub, 1) := by decide +kernel
theorem jd_M_fate_23 : decode jc_M_fate 23 = .ok (.putfield 103, 3) := by decide +kernel
theorem jd_M_fate_26 : decode jc_M_fate 26 = .ok (.iconst 0, 1) := by decide +kernel
theorem jd_M_fate_27 : decode jc_M_fate 27 = .ok (.istore_n 2, 1) := by decide +kernel
theorem jd_M_fate_28 : decode jc_M_fate 28 = .ok (.iload_n 2, 1) := by decide +kernel
theorem jd_M_fate_29 : decode jc_M_fate 29 = .ok (.aload_n 0, 1) := by decide +kernel
theorem jd_M_fate_30 : decode jc_M_fate 30 = .ok (.getfield 103, 3) := by decide +kernel
theorem jd_M_fate_33 : decode jc_M_fate 33 = .ok (.if_icmp .ge 23, 3) := by decide +kernel
theorem jd_M_fate_36 : decode jc_M_fate 36 = .ok (.aload_n 0, 1) := by decide +kernel
theorem jd_M_fate_37 : decode jc_M_fate 37 = .ok (.getfield 66, 3) := by decide +kernel
theorem jd_M_fate_40 : decode jc_M_fate 40 = .ok (.iload_n 2, 1) := by decide +kernel
theorem jd_M_fate_41 : decode jc_M_fate 41 = .ok (.aload_n 0, 1) := by decide +kernel
theorem jd_M_fate_42 : decode jc_M_fate 42 = .ok (.getfield 66, 3) := by decide +kernel
theorem jd_M_fate_45 : decode jc_M_fate 45 = .ok (.iload_n 2, 1) := by decide +kernel
theorem jd_M_fate_46 : decode jc_M_fate 46 = .ok (.iconst 1, 1) := by decide +kernel
theorem jd_M_fate_47 : decode jc_M_fate 47 = .ok (.iadd, 1) := by decide +kernel
theorem jd_M_fate_48 : decode jc_M_fate 48 = .ok (.iaload, 1) := by decide +kernel
theorem jd_M_fate_49 : decode jc_M_fate 49 = .ok (.iastore, 1) := by decide +kernel
theorem jd_M_fate_50 : decode jc_M_fate 50 = .ok (.iinc 2 1, 3) := by decide +kernel
theorem jd_M_fate_53 : decode jc_M_fate 53 = .ok (.goto (-25), 3) := by decide +kernel
theorem jd_M_fate_56 : decode jc_M_fate 56 = .ok (.iload_n 1, 1) := by decide +kernel
theorem jd_M_fate_57 : decode jc_M_fate 57 = .ok (.ireturn, 1) := by decide +kernel
theorem jd_M_request_0 : decode jc_M_request 0 = .ok (.aload_n 0, 1) := by decide +kernel
theorem jd_M_request_1 : decode jc_M_request 1 = .ok (.getfield 54, 3) := by decide +kernel
theorem jd_M_request_4 : decode jc_M_request 4 = .ok (.iload_n 1, 1) := by decide +kernel
theorem jd_M_request_5 : decode jc_M_request 5 = .ok (.iaload, 1) := by decide +kernel
theorem jd_M_request_6 : decode jc_M_request 6 = .ok (.ifCond .eq 4, 3) := by decide +kernel
theorem jd_M_request_9 : decode jc_M_request 9 = .ok (.return_, 1) := by decide +kernel
theorem jd_M_request_10 : decode jc_M_request 10 = .ok (.aload_n 0, 1) := by decide +kernel
theorem jd_M_request_11 : decode jc_M_request 11 = .ok (.getfield 45, 3) := by decide +kernel
theorem jd_M_request_14 : decode jc_M_request 14 = .ok (.iload_n 1, 1) := by decide +kernel
theorem jd_M_request_15 : decode jc_M_request 15 = .ok (.iaload, 1) := by decide +kernel
theorem jd_M_request_16 : decode jc_M_request 16 = .ok (.istore_n 2, 1) := by decide +kernel
theorem jd_M_request_17 : decode jc_M_request 17 = .ok (.aload_n 0, 1) := by decide +kernel
theorem jd_M_request_18 : decode jc_M_request 18 = .ok (.getfield 57, 3) := by decide +kernel
theorem jd_M_request_21 : decode jc_M_request 21 = .ok (.iload_n 1, 1) := by decide +kernel
theorem jd_M_request_22 : decode jc_M_request 22 = .ok (.baload, 1) := by decide +kernel
theorem jd_M_request_23 : decode jc_M_request 23 = .ok (.ifCond .ne 27, 3) := by decide +kernel
theorem jd_M_request_26 : decode jc_M_request 26 = .ok (.aload_n 0, 1) := by decide +kernel
theorem jd_M_request_27 : decode jc_M_request 27 = .ok (.getfield 26, 3) := by decide +kernel
theorem jd_M_request_30 : decode jc_M_request 30 = .ok (.iload_n 2, 1) := by decide +kernel
theorem jd_M_request_31 : decode jc_M_request 31 = .ok (.baload, 1) := by decide +kernel
theorem jd_M_request_32 : decode jc_M_request 32 = .ok (.ifCond .ne 18, 3) := by decide +kernel
theorem jd_M_request_35 : decode jc_M_request 35 = .ok (.aload_n 0, 1) := by decide +kernel
theorem jd_M_request_36 : decode jc_M_request 36 = .ok (.getfield 20, 3) := by decide +kernel
theorem jd_M_request_39 : decode jc_M_request 39 = .ok (.iload_n 2, 1) := by decide +kernel
theorem jd_M_request_40 : decode jc_M_request 40 = .ok (.iaload, 1) := by decide +kernel
theorem jd_M_request_41 : decode jc_M_request 41 = .ok (.aload_n 0, 1) := by decide +kernel
theorem jd_M_request_42 : decode jc_M_request 42 = .ok (.getfield 48, 3) := by decide +kernel
theorem jd_M_request_45 : decode jc_M_request 45 = .ok (.iload_n 1, 1) := by decide +kernel
theorem jd_M_request_46 : decode jc_M_request 46 = .ok (.iaload, 1) := by decide +kernel
theorem jd_M_request_47 : decode jc_M_request 47 = .ok (.if_icmp .ge 13, 3) := by decide +kernel
theorem jd_M_request_50 : decode jc_M_request 50 = .ok (.aload_n 0, 1) := by decide +kernel
theorem jd_M_request_51 : decode jc_M_request 51 = .ok (.getfield 54, 3) := by decide +kernel
theorem jd_M_request_54 : decode jc_M_request 54 = .ok (.iload_n 1, 1) := by decide +kernel
theorem jd_M_request_55 : decode jc_M_request 55 = .ok (.iconst 2, 1) := by decide +kernel
theorem jd_M_request_56 : decode jc_M_request 56 = .ok (.iastore, 1) := by decide +kernel
theorem jd_M_request_57 : decode jc_M_request 57 = .ok (.goto 25, 3) := by decide +kernel
theorem jd_M_request_60 : decode jc_M_request 60 = .ok (.aload_n 0, 1) := by decide +kernel
theorem jd_M_request_61 : decode jc_M_request 61 = .ok (.getfield 54, 3) := by decide +kernel
theorem jd_M_request_64 : decode jc_M_request 64 = .ok (.iload_n 1, 1) := by decide +kernel
theorem jd_M_request_65 : decode jc_M_request 65 = .ok (.iconst 1, 1) := by decide +kernel
theorem jd_M_request_66 : decode jc_M_request 66 = .ok (.iastore, 1) := by decide +kernel
theorem jd_M_request_67 : decode jc_M_request 67 = .ok (.aload_n 0, 1) := by decide +kernel
theorem jd_M_request_68 : decode jc_M_request 68 = .ok (.getfield 20, 3) := by decide +kernel
theorem jd_M_request_71 : decode jc_M_request 71 = .ok (.iload_n 2, 1) := by decide +kernel
theorem jd_M_request_72 : decode jc_M_request 72 = .ok (.dup2, 1) := by decide +kernel
theorem jd_M_request_73 : decode jc_M_request 73 = .ok (.iaload, 1) := by decide +kernel
theorem jd_M_request_74 : decode jc_M_request 74 = .ok (.aload_n 0, 1) := by decide +kernel
theorem jd_M_request_75 : decode jc_M_request 75 = .ok (.getfield 48, 3) := by decide +kernel
theorem jd_M_request_78 : decode jc_M_request 78 = .ok (.iload_n 1, 1) := by decide +kernel
theorem jd_M_request_79 : decode jc_M_request 79 = .ok (.iaload, 1) := by decide +kernel
theorem jd_M_request_80 : decode jc_M_request 80 = .ok (.isub, 1) := by decide +kernel
theorem jd_M_request_81 : decode jc_M_request 81 = .ok (.iastore, 1) := by decide +kernel
theorem jd_M_request_82 : decode jc_M_request 82 = .ok (.return_, 1) := by decide +kernel
theorem jd_M_owe_0 : decode jc_M_owe 0 = .ok (.aload_n 0, 1) := by decide +kernel
theorem jd_M_owe_1 : decode jc_M_owe 1 = .ok (.getfield 60, 3) := by decide +kernel
theorem jd_M_owe_4 : decode jc_M_owe 4 = .ok (.aload_n 0, 1) := by decide +kernel
theorem jd_M_owe_5 : decode jc_M_owe 5 = .ok (.getfield 106, 3) := by decide +kernel
theorem jd_M_owe_8 : decode jc_M_owe 8 = .ok (.iload_n 1, 1) := by decide +kernel
theorem jd_M_owe_9 : decode jc_M_owe 9 = .ok (.iastore, 1) := by decide +kernel
theorem jd_M_owe_10 : decode jc_M_owe 10 = .ok (.aload_n 0, 1) := by decide +kernel
theorem jd_M_owe_11 : decode jc_M_owe 11 = .ok (.getfield 63, 3) := by decide +kernel
theorem jd_M_owe_14 : decode jc_M_owe 14 = .ok (.aload_n 0, 1) := by decide +kernel
theorem jd_M_owe_15 : decode jc_M_owe 15 = .ok (.getfield 106, 3) := by decide +kernel
theorem jd_M_owe_18 : decode jc_M_owe 18 = .ok (.iload_n 2, 1) := by decide +kernel
theorem jd_M_owe_19 : decode jc_M_owe 19 = .ok (.iastore, 1) := by decide +kernel
theorem jd_M_owe_20 : decode jc_M_owe 20 = .ok (.aload_n 0, 1) := by decide +kernel
theorem jd_M_owe_21 : decode jc_M_owe 21 = .ok (.dup, 1) := by decide +kernel
theorem jd_M_owe_22 : decode jc_M_owe 22 = .ok (.getfield 106, 3) := by decide +kernel
theorem jd_M_owe_25 : decode jc_M_owe 25 = .ok (.iconst 1, 1) := by decide +kernel
theorem jd_M_owe_26 : decode jc_M_owe 26 = .ok (.iadd, 1) := by decide +kernel
theorem jd_M_owe_27 : decode jc_M_owe 27 = .ok (.putfield 106, 3) := by decide +kernel
theorem jd_M_owe_30 : decode jc_M_owe 30 = .ok (.return_, 1) := by decide +kernel
theorem jd_M_pay_0 : decode jc_M_pay 0 = .ok (.aload_n 0, 1) := by decide +kernel
theorem jd_M_pay_1 : decode jc_M_pay 1 = .ok (.getfield 69, 3) := by decide +kernel
theorem jd_M_pay_4 : decode jc_M_pay 4 = .ok (.ifCond .ge 9, 3) := by decide +kernel
theorem jd_M_pay_7 : decode jc_M_pay 7 = .ok (.sipush 1000, 3) := by decide +kernel
theorem jd_M_pay_10 : decode jc_M_pay 10 = .ok (.goto 7, 3) := by decide +kernel
theorem jd_M_pay_13 : decode jc_M_pay 13 = .ok (.aload_n 0, 1) := by decide +kernel
theorem jd_M_pay_14 : decode jc_M_pay 14 = .ok (.getfield 69, 3) := by decide +kernel
theorem jd_M_pay_17 : decode jc_M_pay 17 = .ok (.istore_n 2, 1) := by decide +kernel
