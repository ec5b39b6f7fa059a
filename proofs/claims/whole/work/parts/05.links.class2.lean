theorem d_Q_init_0 : decode c_Q_init 0 = .ok (.aload_n 0, 1) := by decide +kernel
theorem d_Q_init_1 : decode c_Q_init 1 = .ok (.invokespecial 1, 3) := by decide +kernel
theorem d_Q_init_4 : decode c_Q_init 4 = .ok (.aload_n 0, 1) := by decide +kernel
theorem d_Q_init_5 : decode c_Q_init 5 = .ok (.iconst 5, 1) := by decide +kernel
theorem d_Q_init_6 : decode c_Q_init 6 = .ok (.anewarray 9, 3) := by decide +kernel
theorem d_Q_init_9 : decode c_Q_init 9 = .ok (.putfield 11, 3) := by decide +kernel
theorem d_Q_init_12 : decode c_Q_init 12 = .ok (.aload_n 0, 1) := by decide +kernel
theorem d_Q_init_13 : decode c_Q_init 13 = .ok (.new 15, 3) := by decide +kernel
theorem d_Q_init_16 : decode c_Q_init 16 = .ok (.dup, 1) := by decide +kernel
theorem d_Q_init_17 : decode c_Q_init 17 = .ok (.invokespecial 17, 3) := by decide +kernel
theorem d_Q_init_20 : decode c_Q_init 20 = .ok (.putfield 18, 3) := by decide +kernel
theorem d_Q_init_23 : decode c_Q_init 23 = .ok (.iload_n 1, 1) := by decide +kernel
theorem d_Q_init_24 : decode c_Q_init 24 = .ok (.bipush (31), 2) := by decide +kernel
theorem d_Q_init_26 : decode c_Q_init 26 = .ok (.iand, 1) := by decide +kernel
theorem d_Q_init_27 : decode c_Q_init 27 = .ok (.istore_n 2, 1) := by decide +kernel
theorem d_Q_init_28 : decode c_Q_init 28 = .ok (.new 22, 3) := by decide +kernel
theorem d_Q_init_31 : decode c_Q_init 31 = .ok (.dup, 1) := by decide +kernel
theorem d_Q_init_32 : decode c_Q_init 32 = .ok (.iconst 0, 1) := by decide +kernel
theorem d_Q_init_33 : decode c_Q_init 33 = .ok (.iconst 0, 1) := by decide +kernel
theorem d_Q_init_34 : decode c_Q_init 34 = .ok (.iload_n 2, 1) := by decide +kernel
theorem d_Q_init_35 : decode c_Q_init 35 = .ok (.ifCond .ne (7), 3) := by decide +kernel
theorem d_Q_init_38 : decode c_Q_init 38 = .ok (.iconst 1, 1) := by decide +kernel
theorem d_Q_init_39 : decode c_Q_init 39 = .ok (.goto (4), 3) := by decide +kernel
theorem d_Q_init_42 : decode c_Q_init 42 = .ok (.iload_n 2, 1) := by decide +kernel
theorem d_Q_init_43 : decode c_Q_init 43 = .ok (.iconst 4, 1) := by decide +kernel
theorem d_Q_init_44 : decode c_Q_init 44 = .ok (.newarray .int, 2) := by decide +kernel
theorem d_Q_init_46 : decode c_Q_init 46 = .ok (.invokespecial 24, 3) := by decide +kernel
theorem d_Q_init_49 : decode c_Q_init 49 = .ok (.astore_n 3, 1) := by decide +kernel
theorem d_Q_init_50 : decode c_Q_init 50 = .ok (.iconst 0, 1) := by decide +kernel
theorem d_Q_init_51 : decode c_Q_init 51 = .ok (.istore 4, 2) := by decide +kernel
theorem d_Q_init_53 : decode c_Q_init 53 = .ok (.iload 4, 2) := by decide +kernel
theorem d_Q_init_55 : decode c_Q_init 55 = .ok (.iconst 5, 1) := by decide +kernel
theorem d_Q_init_56 : decode c_Q_init 56 = .ok (.if_icmp .ge (26), 3) := by decide +kernel
theorem d_Q_init_59 : decode c_Q_init 59 = .ok (.aload_n 0, 1) := by decide +kernel
theorem d_Q_init_60 : decode c_Q_init 60 = .ok (.getfield 11, 3) := by decide +kernel
theorem d_Q_init_63 : decode c_Q_init 63 = .ok (.iload 4, 2) := by decide +kernel
theorem d_Q_init_65 : decode c_Q_init 65 = .ok (.new 9, 3) := by decide +kernel
theorem d_Q_init_68 : decode c_Q_init 68 = .ok (.dup, 1) := by decide +kernel
theorem d_Q_init_69 : decode c_Q_init 69 = .ok (.iload 4, 2) := by decide +kernel
theorem d_Q_init_71 : decode c_Q_init 71 = .ok (.aload_n 3, 1) := by decide +kernel
theorem d_Q_init_72 : decode c_Q_init 72 = .ok (.invokespecial 27, 3) := by decide +kernel
theorem d_Q_init_75 : decode c_Q_init 75 = .ok (.aastore, 1) := by decide +kernel
theorem d_Q_init_76 : decode c_Q_init 76 = .ok (.iinc 4 (1), 3) := by decide +kernel
theorem d_Q_init_79 : decode c_Q_init 79 = .ok (.goto (-26), 3) := by decide +kernel
theorem d_Q_init_82 : decode c_Q_init 82 = .ok (.aload_n 0, 1) := by decide +kernel
theorem d_Q_init_83 : decode c_Q_init 83 = .ok (.new 30, 3) := by decide +kernel
theorem d_Q_init_86 : decode c_Q_init 86 = .ok (.dup, 1) := by decide +kernel
theorem d_Q_init_87 : decode c_Q_init 87 = .ok (.aload_n 3, 1) := by decide +kernel
theorem d_Q_init_88 : decode c_Q_init 88 = .ok (.invokespecial 32, 3) := by decide +kernel
theorem d_Q_init_91 : decode c_Q_init 91 = .ok (.putfield 35, 3) := by decide +kernel
theorem d_Q_init_94 : decode c_Q_init 94 = .ok (.return_, 1) := by decide +kernel
theorem d_Q_timer_0 : decode c_Q_timer 0 = .ok (.iload_n 1, 1) := by decide +kernel
theorem d_Q_timer_1 : decode c_Q_timer 1 = .ok (.invokestatic 39, 3) := by decide +kernel
theorem d_Q_timer_4 : decode c_Q_timer 4 = .ok (.ifCond .eq (15), 3) := by decide +kernel
theorem d_Q_timer_7 : decode c_Q_timer 7 = .ok (.aload_n 0, 1) := by decide +kernel
theorem d_Q_timer_8 : decode c_Q_timer 8 = .ok (.getfield 11, 3) := by decide +kernel
theorem d_Q_timer_11 : decode c_Q_timer 11 = .ok (.iload_n 1, 1) := by decide +kernel
theorem d_Q_timer_12 : decode c_Q_timer 12 = .ok (.aaload, 1) := by decide +kernel
theorem d_Q_timer_13 : decode c_Q_timer 13 = .ok (.invokevirtual 43, 3) := by decide +kernel
theorem d_Q_timer_16 : decode c_Q_timer 16 = .ok (.ifCond .ne (5), 3) := by decide +kernel
theorem d_Q_timer_19 : decode c_Q_timer 19 = .ok (.iconst 0, 1) := by decide +kernel
theorem d_Q_timer_20 : decode c_Q_timer 20 = .ok (.ireturn, 1) := by decide +kernel
theorem d_Q_timer_21 : decode c_Q_timer 21 = .ok (.aload_n 0, 1) := by decide +kernel
theorem d_Q_timer_22 : decode c_Q_timer 22 = .ok (.getfield 11, 3) := by decide +kernel
theorem d_Q_timer_25 : decode c_Q_timer 25 = .ok (.iload_n 1, 1) := by decide +kernel
theorem d_Q_timer_26 : decode c_Q_timer 26 = .ok (.aaload, 1) := by decide +kernel
theorem d_Q_timer_27 : decode c_Q_timer 27 = .ok (.astore_n 2, 1) := by decide +kernel
theorem d_Q_timer_28 : decode c_Q_timer 28 = .ok (.aload_n 2, 1) := by decide +kernel
theorem d_Q_timer_29 : decode c_Q_timer 29 = .ok (.iconst 0, 1) := by decide +kernel
theorem d_Q_timer_30 : decode c_Q_timer 30 = .ok (.putfield 47, 3) := by decide +kernel
theorem d_Q_timer_33 : decode c_Q_timer 33 = .ok (.aload_n 2, 1) := by decide +kernel
theorem d_Q_timer_34 : decode c_Q_timer 34 = .ok (.iconst 1, 1) := by decide +kernel
theorem d_Q_timer_35 : decode c_Q_timer 35 = .ok (.putfield 51, 3) := by decide +kernel
theorem d_Q_timer_38 : decode c_Q_timer 38 = .ok (.aload_n 2, 1) := by decide +kernel
theorem d_Q_timer_39 : decode c_Q_timer 39 = .ok (.iconst 1, 1) := by decide +kernel
theorem d_Q_timer_40 : decode c_Q_timer 40 = .ok (.aload_n 2, 1) := by decide +kernel
theorem d_Q_timer_41 : decode c_Q_timer 41 = .ok (.getfield 55, 3) := by decide +kernel
theorem d_Q_timer_44 : decode c_Q_timer 44 = .ok (.ishl, 1) := by decide +kernel
theorem d_Q_timer_45 : decode c_Q_timer 45 = .ok (.putfield 58, 3) := by decide +kernel
theorem d_Q_timer_48 : decode c_Q_timer 48 = .ok (.aload_n 0, 1) := by decide +kernel
theorem d_Q_timer_49 : decode c_Q_timer 49 = .ok (.aload_n 2, 1) := by decide +kernel
theorem d_Q_timer_50 : decode c_Q_timer 50 = .ok (.iconst 0, 1) := by decide +kernel
theorem d_Q_timer_51 : decode c_Q_timer 51 = .ok (.aload_n 2, 1) := by decide +kernel
theorem d_Q_timer_52 : decode c_Q_timer 52 = .ok (.getfield 61, 3) := by decide +kernel
theorem d_Q_timer_55 : decode c_Q_timer 55 = .ok (.iconst 1, 1) := by decide +kernel
theorem d_Q_timer_56 : decode c_Q_timer 56 = .ok (.iadd, 1) := by decide +kernel
theorem d_Q_timer_57 : decode c_Q_timer 57 = .ok (.invokevirtual 64, 3) := by decide +kernel
theorem d_Q_timer_60 : decode c_Q_timer 60 = .ok (.aload_n 0, 1) := by decide +kernel
theorem d_Q_timer_61 : decode c_Q_timer 61 = .ok (.aload_n 2, 1) := by decide +kernel
theorem d_Q_timer_62 : decode c_Q_timer 62 = .ok (.invokevirtual 68, 3) := by decide +kernel
theorem d_Q_timer_65 : decode c_Q_timer 65 = .ok (.aload_n 0, 1) := by decide +kernel
theorem d_Q_timer_66 : decode c_Q_timer 66 = .ok (.aload_n 2, 1) := by decide +kernel
theorem d_Q_timer_67 : decode c_Q_timer 67 = .ok (.invokevirtual 72, 3) := by decide +kernel
theorem d_Q_timer_70 : decode c_Q_timer 70 = .ok (.iconst 1, 1) := by decide +kernel
theorem d_Q_timer_71 : decode c_Q_timer 71 = .ok (.ireturn, 1) := by decide +kernel
theorem d_Q_isServer_0 : decode c_Q_isServer 0 = .ok (.iload_n 0, 1) := by decide +kernel
theorem d_Q_isServer_1 : decode c_Q_isServer 1 = .ok (.ifCond .lt (12), 3) := by decide +kernel
theorem d_Q_isServer_4 : decode c_Q_isServer 4 = .ok (.iload_n 0, 1) := by decide +kernel
theorem d_Q_isServer_5 : decode c_Q_isServer 5 = .ok (.iconst 5, 1) := by decide +kernel
theorem d_Q_isServer_6 : decode c_Q_isServer 6 = .ok (.if_icmp .ge (7), 3) := by decide +kernel
theorem d_Q_isServer_9 : decode c_Q_isServer 9 = .ok (.iconst 1, 1) := by decide +kernel
theorem d_Q_isServer_10 : decode c_Q_isServer 10 = .ok (.goto (4), 3) := by decide +kernel
theorem d_Q_isServer_13 : decode c_Q_isServer 13 = .ok (.iconst 0, 1) := by decide +kernel
theorem d_Q_isServer_14 : decode c_Q_isServer 14 = .ok (.ireturn, 1) := by decide +kernel
theorem d_Q_isIn_0 : decode c_Q_isIn 0 = .ok (.iload_n 0, 1) := by decide +kernel
theorem d_Q_isIn_1 : decode c_Q_isIn 1 = .ok (.iload_n 1, 1) := by decide +kernel
theorem d_Q_isIn_2 : decode c_Q_isIn 2 = .ok (.ishr, 1) := by decide +kernel
theorem d_Q_isIn_3 : decode c_Q_isIn 3 = .ok (.iconst 1, 1) := by decide +kernel
theorem d_Q_isIn_4 : decode c_Q_isIn 4 = .ok (.iand, 1) := by decide +kernel
theorem d_Q_isIn_5 : decode c_Q_isIn 5 = .ok (.iconst 1, 1) := by decide +kernel
theorem d_Q_isIn_6 : decode c_Q_isIn 6 = .ok (.if_icmp .ne (7), 3) := by decide +kernel
theorem d_Q_isIn_9 : decode c_Q_isIn 9 = .ok (.iconst 1, 1) := by decide +kernel
theorem d_Q_isIn_10 : decode c_Q_isIn 10 = .ok (.goto (4), 3) := by decide +kernel
theorem d_Q_isIn_13 : decode c_Q_isIn 13 = .ok (.iconst 0, 1) := by decide +kernel
theorem d_Q_isIn_14 : decode c_Q_isIn 14 = .ok (.ireturn, 1) := by decide +kernel
theorem d_Q_askAll_0 : decode c_Q_askAll 0 = .ok (.aload_n 1, 1) := by decide +kernel
theorem d_Q_askAll_1 : decode c_Q_askAll 1 = .ok (.getfield 85, 3) := by decide +kernel
theorem d_Q_askAll_4 : decode c_Q_askAll 4 = .ok (.invokevirtual 115, 3) := by decide +kernel
theorem d_Q_askAll_7 : decode c_Q_askAll 7 = .ok (.istore 4, 2) := by decide +kernel
theorem d_Q_askAll_9 : decode c_Q_askAll 9 = .ok (.iconst 0, 1) := by decide +kernel
theorem d_Q_askAll_10 : decode c_Q_askAll 10 = .ok (.istore 5, 2) := by decide +kernel
theorem d_Q_askAll_12 : decode c_Q_askAll 12 = .ok (.iload 5, 2) := by decide +kernel
theorem d_Q_askAll_14 : decode c_Q_askAll 14 = .ok (.iconst 5, 1) := by decide +kernel
theorem d_Q_askAll_15 : decode c_Q_askAll 15 = .ok (.if_icmp .ge (69), 3) := by decide +kernel
theorem d_Q_askAll_18 : decode c_Q_askAll 18 = .ok (.iload 5, 2) := by decide +kernel
theorem d_Q_askAll_20 : decode c_Q_askAll 20 = .ok (.aload_n 1, 1) := by decide +kernel
theorem d_Q_askAll_21 : decode c_Q_askAll 21 = .ok (.getfield 55, 3) := by decide +kernel
theorem d_Q_askAll_24 : decode c_Q_askAll 24 = .ok (.if_icmp .eq (54), 3) := by decide +kernel
theorem d_Q_askAll_27 : decode c_Q_askAll 27 = .ok (.iload 4, 2) := by decide +kernel
theorem d_Q_askAll_29 : decode c_Q_askAll 29 = .ok (.iload 5, 2) := by decide +kernel
theorem d_Q_askAll_31 : decode c_Q_askAll 31 = .ok (.invokestatic 250, 3) := by decide +kernel
theorem d_Q_askAll_34 : decode c_Q_askAll 34 = .ok (.ifCond .eq (44), 3) := by decide +kernel
theorem d_Q_askAll_37 : decode c_Q_askAll 37 = .ok (.aload_n 0, 1) := by decide +kernel
theorem d_Q_askAll_38 : decode c_Q_askAll 38 = .ok (.getfield 35, 3) := by decide +kernel
theorem d_Q_askAll_41 : decode c_Q_askAll 41 = .ok (.iload_n 2, 1) := by decide +kernel
theorem d_Q_askAll_42 : decode c_Q_askAll 42 = .ok (.aload_n 1, 1) := by decide +kernel
theorem d_Q_askAll_43 : decode c_Q_askAll 43 = .ok (.getfield 55, 3) := by decide +kernel
theorem d_Q_askAll_46 : decode c_Q_askAll 46 = .ok (.iload 5, 2) := by decide +kernel
theorem d_Q_askAll_48 : decode c_Q_askAll 48 = .ok (.iload_n 3, 1) := by decide +kernel
theorem d_Q_askAll_49 : decode c_Q_askAll 49 = .ok (.invokevirtual 254, 3) := by decide +kernel
theorem d_Q_askAll_52 : decode c_Q_askAll 52 = .ok (.astore 6, 2) := by decide +kernel
theorem d_Q_askAll_54 : decode c_Q_askAll 54 = .ok (.aload 6, 2) := by decide +kernel
theorem d_Q_askAll_56 : decode c_Q_askAll 56 = .ok (.aload_n 1, 1) := by decide +kernel
theorem d_Q_askAll_57 : decode c_Q_askAll 57 = .ok (.getfield 85, 3) := by decide +kernel
theorem d_Q_askAll_60 : decode c_Q_askAll 60 = .ok (.invokevirtual 126, 3) := by decide +kernel
theorem d_Q_askAll_63 : decode c_Q_askAll 63 = .ok (.putfield 213, 3) := by decide +kernel
theorem d_Q_askAll_66 : decode c_Q_askAll 66 = .ok (.aload 6, 2) := by decide +kernel
theorem d_Q_askAll_68 : decode c_Q_askAll 68 = .ok (.aload_n 1, 1) := by decide +kernel
theorem d_Q_askAll_69 : decode c_Q_askAll 69 = .ok (.getfield 85, 3) := by decide +kernel
theorem d_Q_askAll_72 : decode c_Q_askAll 72 = .ok (.invokevirtual 258, 3) := by decide +kernel
theorem d_Q_askAll_75 : decode c_Q_askAll 75 = .ok (.putfield 261, 3) := by decide +kernel
theorem d_Q_askAll_78 : decode c_Q_askAll 78 = .ok (.iinc 5 (1), 3) := by decide +kernel
theorem d_Q_askAll_81 : decode c_Q_askAll 81 = .ok (.goto (-69), 3) := by decide +kernel
theorem d_Q_askAll_84 : decode c_Q_askAll 84 = .ok (.return_, 1) := by decide +kernel
theorem d_Q_standIfMostSaidYes_0 : decode c_Q_standIfMostSaidYes 0 = .ok (.aload_n 1, 1) := by decide +kernel
theorem d_Q_standIfMostSaidYes_1 : decode c_Q_standIfMostSaidYes 1 = .ok (.getfield 51, 3) := by decide +kernel
theorem d_Q_standIfMostSaidYes_4 : decode c_Q_standIfMostSaidYes 4 = .ok (.iconst 1, 1) := by decide +kernel
theorem d_Q_standIfMostSaidYes_5 : decode c_Q_standIfMostSaidYes 5 = .ok (.if_icmp .ne (20), 3) := by decide +kernel
theorem d_Q_standIfMostSaidYes_8 : decode c_Q_standIfMostSaidYes 8 = .ok (.aload_n 1, 1) := by decide +kernel
theorem d_Q_standIfMostSaidYes_9 : decode c_Q_standIfMostSaidYes 9 = .ok (.getfield 58, 3) := by decide +kernel
theorem d_Q_standIfMostSaidYes_12 : decode c_Q_standIfMostSaidYes 12 = .ok (.aload_n 1, 1) := by decide +kernel
theorem d_Q_standIfMostSaidYes_13 : decode c_Q_standIfMostSaidYes 13 = .ok (.getfield 85, 3) := by decide +kernel
theorem d_Q_standIfMostSaidYes_16 : decode c_Q_standIfMostSaidYes 16 = .ok (.invokevirtual 115, 3) := by decide +kernel
theorem d_Q_standIfMostSaidYes_19 : decode c_Q_standIfMostSaidYes 19 = .ok (.invokestatic 264, 3) := by decide +kernel
theorem d_Q_standIfMostSaidYes_22 : decode c_Q_standIfMostSaidYes 22 = .ok (.ifCond .ne (4), 3) := by decide +kernel
theorem d_Q_standIfMostSaidYes_25 : decode c_Q_standIfMostSaidYes 25 = .ok (.return_, 1) := by decide +kernel
theorem d_Q_standIfMostSaidYes_26 : decode c_Q_standIfMostSaidYes 26 = .ok (.aload_n 1, 1) := by decide +kernel
theorem d_Q_standIfMostSaidYes_27 : decode c_Q_standIfMostSaidYes 27 = .ok (.iconst 2, 1) := by decide +kernel
theorem d_Q_standIfMostSaidYes_28 : decode c_Q_standIfMostSaidYes 28 = .ok (.putfield 51, 3) := by decide +kernel
theorem d_Q_standIfMostSaidYes_31 : decode c_Q_standIfMostSaidYes 31 = .ok (.aload_n 1, 1) := by decide +kernel
theorem d_Q_standIfMostSaidYes_32 : decode c_Q_standIfMostSaidYes 32 = .ok (.dup, 1) := by decide +kernel
theorem d_Q_standIfMostSaidYes_33 : decode c_Q_standIfMostSaidYes 33 = .ok (.getfield 61, 3) := by decide +kernel
theorem d_Q_standIfMostSaidYes_36 : decode c_Q_standIfMostSaidYes 36 = .ok (.iconst 1, 1) := by decide +kernel
theorem d_Q_standIfMostSaidYes_37 : decode c_Q_standIfMostSaidYes 37 = .ok (.iadd, 1) := by decide +kernel
theorem d_Q_standIfMostSaidYes_38 : decode c_Q_standIfMostSaidYes 38 = .ok (.putfield 61, 3) := by decide +kernel
theorem d_Q_standIfMostSaidYes_41 : decode c_Q_standIfMostSaidYes 41 = .ok (.aload_n 1, 1) := by decide +kernel
theorem d_Q_standIfMostSaidYes_42 : decode c_Q_standIfMostSaidYes 42 = .ok (.aload_n 1, 1) := by decide +kernel
theorem d_Q_standIfMostSaidYes_43 : decode c_Q_standIfMostSaidYes 43 = .ok (.getfield 55, 3) := by decide +kernel
theorem d_Q_standIfMostSaidYes_46 : decode c_Q_standIfMostSaidYes 46 = .ok (.putfield 220, 3) := by decide +kernel
theorem d_Q_standIfMostSaidYes_49 : decode c_Q_standIfMostSaidYes 49 = .ok (.aload_n 1, 1) := by decide +kernel
theorem d_Q_standIfMostSaidYes_50 : decode c_Q_standIfMostSaidYes 50 = .ok (.iconst 1, 1) := by decide +kernel
theorem d_Q_standIfMostSaidYes_51 : decode c_Q_standIfMostSaidYes 51 = .ok (.aload_n 1, 1) := by decide +kernel
theorem d_Q_standIfMostSaidYes_52 : decode c_Q_standIfMostSaidYes 52 = .ok (.getfield 55, 3) := by decide +kernel
theorem d_Q_standIfMostSaidYes_55 : decode c_Q_standIfMostSaidYes 55 = .ok (.ishl, 1) := by decide +kernel
theorem d_Q_standIfMostSaidYes_56 : decode c_Q_standIfMostSaidYes 56 = .ok (.putfield 58, 3) := by decide +kernel
theorem d_Q_standIfMostSaidYes_59 : decode c_Q_standIfMostSaidYes 59 = .ok (.aload_n 0, 1) := by decide +kernel
theorem d_Q_standIfMostSaidYes_60 : decode c_Q_standIfMostSaidYes 60 = .ok (.aload_n 1, 1) := by decide +kernel
theorem d_Q_standIfMostSaidYes_61 : decode c_Q_standIfMostSaidYes 61 = .ok (.iconst 2, 1) := by decide +kernel
theorem d_Q_standIfMostSaidYes_62 : decode c_Q_standIfMostSaidYes 62 = .ok (.aload_n 1, 1) := by decide +kernel
theorem d_Q_standIfMostSaidYes_63 : decode c_Q_standIfMostSaidYes 63 = .ok (.getfield 61, 3) := by decide +kernel
theorem d_Q_standIfMostSaidYes_66 : decode c_Q_standIfMostSaidYes 66 = .ok (.invokevirtual 64, 3) := by decide +kernel
theorem d_Q_standIfMostSaidYes_69 : decode c_Q_standIfMostSaidYes 69 = .ok (.return_, 1) := by decide +kernel
theorem d_Q_areMost_0 : decode c_Q_areMost 0 = .ok (.iconst 2, 1) := by decide +kernel
theorem d_Q_areMost_1 : decode c_Q_areMost 1 = .ok (.iload_n 0, 1) := by decide +kernel
theorem d_Q_areMost_2 : decode c_Q_areMost 2 = .ok (.iload_n 1, 1) := by decide +kernel
theorem d_Q_areMost_3 : decode c_Q_areMost 3 = .ok (.iand, 1) := by decide +kernel
theorem d_Q_areMost_4 : decode c_Q_areMost 4 = .ok (.invokestatic 243, 3) := by decide +kernel
theorem d_Q_areMost_7 : decode c_Q_areMost 7 = .ok (.imul, 1) := by decide +kernel
theorem d_Q_areMost_8 : decode c_Q_areMost 8 = .ok (.iload_n 1, 1) := by decide +kernel
theorem d_Q_areMost_9 : decode c_Q_areMost 9 = .ok (.invokestatic 243, 3) := by decide +kernel
theorem d_Q_areMost_12 : decode c_Q_areMost 12 = .ok (.if_icmp .le (7), 3) := by decide +kernel
theorem d_Q_areMost_15 : decode c_Q_areMost 15 = .ok (.iconst 1, 1) := by decide +kernel
theorem d_Q_areMost_16 : decode c_Q_areMost 16 = .ok (.goto (4), 3) := by decide +kernel
theorem d_Q_areMost_19 : decode c_Q_areMost 19 = .ok (.iconst 0, 1) := by decide +kernel
theorem d_Q_areMost_20 : decode c_Q_areMost 20 = .ok (.ireturn, 1) := by decide +kernel
theorem d_Q_leadIfMostSaidYes_0 : decode c_Q_leadIfMostSaidYes 0 = .ok (.aload_n 1, 1) := by decide +kernel
theorem d_Q_leadIfMostSaidYes_1 : decode c_Q_leadIfMostSaidYes 1 = .ok (.getfield 51, 3) := by decide +kernel
theorem d_Q_leadIfMostSaidYes_4 : decode c_Q_leadIfMostSaidYes 4 = .ok (.iconst 2, 1) := by decide +kernel
theorem d_Q_leadIfMostSaidYes_5 : decode c_Q_leadIfMostSaidYes 5 = .ok (.if_icmp .ne (20), 3) := by decide +kernel
theorem d_Q_leadIfMostSaidYes_8 : decode c_Q_leadIfMostSaidYes 8 = .ok (.aload_n 1, 1) := by decide +kernel
theorem d_Q_leadIfMostSaidYes_9 : decode c_Q_leadIfMostSaidYes 9 = .ok (.getfield 58, 3) := by decide +kernel
theorem d_Q_leadIfMostSaidYes_12 : decode c_Q_leadIfMostSaidYes 12 = .ok (.aload_n 1, 1) := by decide +kernel
theorem d_Q_leadIfMostSaidYes_13 : decode c_Q_leadIfMostSaidYes 13 = .ok (.getfield 85, 3) := by decide +kernel
theorem d_Q_leadIfMostSaidYes_16 : decode c_Q_leadIfMostSaidYes 16 = .ok (.invokevirtual 115, 3) := by decide +kernel
theorem d_Q_leadIfMostSaidYes_19 : decode c_Q_leadIfMostSaidYes 19 = .ok (.invokestatic 264, 3) := by decide +kernel
theorem d_Q_leadIfMostSaidYes_22 : decode c_Q_leadIfMostSaidYes 22 = .ok (.ifCond .ne (4), 3) := by decide +kernel
theorem d_Q_leadIfMostSaidYes_25 : decode c_Q_leadIfMostSaidYes 25 = .ok (.return_, 1) := by decide +kernel
theorem d_Q_leadIfMostSaidYes_26 : decode c_Q_leadIfMostSaidYes 26 = .ok (.aload_n 1, 1) := by decide +kernel
theorem d_Q_leadIfMostSaidYes_27 : decode c_Q_leadIfMostSaidYes 27 = .ok (.iconst 3, 1) := by decide +kernel
theorem d_Q_leadIfMostSaidYes_28 : decode c_Q_leadIfMostSaidYes 28 = .ok (.putfield 51, 3) := by decide +kernel
theorem d_Q_leadIfMostSaidYes_31 : decode c_Q_leadIfMostSaidYes 31 = .ok (.aload_n 1, 1) := by decide +kernel
theorem d_Q_leadIfMostSaidYes_32 : decode c_Q_leadIfMostSaidYes 32 = .ok (.iconst 0, 1) := by decide +kernel
theorem d_Q_leadIfMostSaidYes_33 : decode c_Q_leadIfMostSaidYes 33 = .ok (.putfield 147, 3) := by decide +kernel
theorem d_Q_leadIfMostSaidYes_36 : decode c_Q_leadIfMostSaidYes 36 = .ok (.iconst 0, 1) := by decide +kernel
theorem d_Q_leadIfMostSaidYes_37 : decode c_Q_leadIfMostSaidYes 37 = .ok (.istore_n 2, 1) := by decide +kernel
theorem d_Q_leadIfMostSaidYes_38 : decode c_Q_leadIfMostSaidYes 38 = .ok (.iload_n 2, 1) := by decide +kernel
theorem d_Q_leadIfMostSaidYes_39 : decode c_Q_leadIfMostSaidYes 39 = .ok (.iconst 5, 1) := by decide +kernel
theorem d_Q_leadIfMostSaidYes_40 : decode c_Q_leadIfMostSaidYes 40 = .ok (.if_icmp .ge (38), 3) := by decide +kernel
theorem d_Q_leadIfMostSaidYes_43 : decode c_Q_leadIfMostSaidYes 43 = .ok (.aload_n 1, 1) := by decide +kernel
theorem d_Q_leadIfMostSaidYes_44 : decode c_Q_leadIfMostSaidYes 44 = .ok (.getfield 267, 3) := by decide +kernel
theorem d_Q_leadIfMostSaidYes_47 : decode c_Q_leadIfMostSaidYes 47 = .ok (.iload_n 2, 1) := by decide +kernel
theorem d_Q_leadIfMostSaidYes_48 : decode c_Q_leadIfMostSaidYes 48 = .ok (.aload_n 1, 1) := by decide +kernel
theorem d_Q_leadIfMostSaidYes_49 : decode c_Q_leadIfMostSaidYes 49 = .ok (.getfield 85, 3) := by decide +kernel
theorem d_Q_leadIfMostSaidYes_52 : decode c_Q_leadIfMostSaidYes 52 = .ok (.invokevirtual 126, 3) := by decide +kernel
theorem d_Q_leadIfMostSaidYes_55 : decode c_Q_leadIfMostSaidYes 55 = .ok (.iconst 1, 1) := by decide +kernel
theorem d_Q_leadIfMostSaidYes_56 : decode c_Q_leadIfMostSaidYes 56 = .ok (.iadd, 1) := by decide +kernel
theorem d_Q_leadIfMostSaidYes_57 : decode c_Q_leadIfMostSaidYes 57 = .ok (.iastore, 1) := by decide +kernel
theorem d_Q_leadIfMostSaidYes_58 : decode c_Q_leadIfMostSaidYes 58 = .ok (.aload_n 1, 1) := by decide +kernel
theorem d_Q_leadIfMostSaidYes_59 : decode c_Q_leadIfMostSaidYes 59 = .ok (.getfield 270, 3) := by decide +kernel
theorem d_Q_leadIfMostSaidYes_62 : decode c_Q_leadIfMostSaidYes 62 = .ok (.iload_n 2, 1) := by decide +kernel
theorem d_Q_leadIfMostSaidYes_63 : decode c_Q_leadIfMostSaidYes 63 = .ok (.iconst 0, 1) := by decide +kernel
theorem d_Q_leadIfMostSaidYes_64 : decode c_Q_leadIfMostSaidYes 64 = .ok (.iastore, 1) := by decide +kernel
theorem d_Q_leadIfMostSaidYes_65 : decode c_Q_leadIfMostSaidYes 65 = .ok (.aload_n 1, 1) := by decide +kernel
theorem d_Q_leadIfMostSaidYes_66 : decode c_Q_leadIfMostSaidYes 66 = .ok (.getfield 273, 3) := by decide +kernel
theorem d_Q_leadIfMostSaidYes_69 : decode c_Q_leadIfMostSaidYes 69 = .ok (.iload_n 2, 1) := by decide +kernel
theorem d_Q_leadIfMostSaidYes_70 : decode c_Q_leadIfMostSaidYes 70 = .ok (.iconst 0, 1) := by decide +kernel
theorem d_Q_leadIfMostSaidYes_71 : decode c_Q_leadIfMostSaidYes 71 = .ok (.iastore, 1) := by decide +kernel
theorem d_Q_leadIfMostSaidYes_72 : decode c_Q_leadIfMostSaidYes 72 = .ok (.iinc 2 (1), 3) := by decide +kernel
theorem d_Q_leadIfMostSaidYes_75 : decode c_Q_leadIfMostSaidYes 75 = .ok (.goto (-37), 3) := by decide +kernel
theorem d_Q_leadIfMostSaidYes_78 : decode c_Q_leadIfMostSaidYes 78 = .ok (.aload_n 0, 1) := by decide +kernel
theorem d_Q_leadIfMostSaidYes_79 : decode c_Q_leadIfMostSaidYes 79 = .ok (.aload_n 1, 1) := by decide +kernel
theorem d_Q_leadIfMostSaidYes_80 : decode c_Q_leadIfMostSaidYes 80 = .ok (.new 101, 3) := by decide +kernel
theorem d_Q_leadIfMostSaidYes_83 : decode c_Q_leadIfMostSaidYes 83 = .ok (.dup, 1) := by decide +kernel
theorem d_Q_leadIfMostSaidYes_84 : decode c_Q_leadIfMostSaidYes 84 = .ok (.aload_n 1, 1) := by decide +kernel
theorem d_Q_leadIfMostSaidYes_85 : decode c_Q_leadIfMostSaidYes 85 = .ok (.getfield 61, 3) := by decide +kernel
theorem d_Q_leadIfMostSaidYes_88 : decode c_Q_leadIfMostSaidYes 88 = .ok (.iconst 0, 1) := by decide +kernel
theorem d_Q_leadIfMostSaidYes_89 : decode c_Q_leadIfMostSaidYes 89 = .ok (.iconst 0, 1) := by decide +kernel
theorem d_Q_leadIfMostSaidYes_90 : decode c_Q_leadIfMostSaidYes 90 = .ok (.iconst 0, 1) := by decide +kernel
theorem d_Q_leadIfMostSaidYes_91 : decode c_Q_leadIfMostSaidYes 91 = .ok (.invokespecial 103, 3) := by decide +kernel
theorem d_Q_leadIfMostSaidYes_94 : decode c_Q_leadIfMostSaidYes 94 = .ok (.invokevirtual 106, 3) := by decide +kernel
theorem d_Q_leadIfMostSaidYes_97 : decode c_Q_leadIfMostSaidYes 97 = .ok (.pop, 1) := by decide +kernel
theorem d_Q_leadIfMostSaidYes_98 : decode c_Q_leadIfMostSaidYes 98 = .ok (.return_, 1) := by decide +kernel
theorem d_Q_append_0 : decode c_Q_append 0 = .ok (.aload_n 1, 1) := by decide +kernel
theorem d_Q_append_1 : decode c_Q_append 1 = .ok (.getfield 85, 3) := by decide +kernel
theorem d_Q_append_4 : decode c_Q_append 4 = .ok (.aload_n 2, 1) := by decide +kernel
theorem d_Q_append_5 : decode c_Q_append 5 = .ok (.invokevirtual 276, 3) := by decide +kernel
theorem d_Q_append_8 : decode c_Q_append 8 = .ok (.pop, 1) := by decide +kernel
theorem d_Q_append_9 : decode c_Q_append 9 = .ok (.aload_n 0, 1) := by decide +kernel
theorem d_Q_append_10 : decode c_Q_append 10 = .ok (.aload_n 1, 1) := by decide +kernel
theorem d_Q_append_11 : decode c_Q_append 11 = .ok (.invokevirtual 280, 3) := by decide +kernel
theorem d_Q_append_14 : decode c_Q_append 14 = .ok (.aload_n 0, 1) := by decide +kernel
theorem d_Q_append_15 : decode c_Q_append 15 = .ok (.aload_n 1, 1) := by decide +kernel
theorem d_Q_append_16 : decode c_Q_append 16 = .ok (.invokevirtual 78, 3) := by decide +kernel
theorem d_Q_append_19 : decode c_Q_append 19 = .ok (.aload_n 1, 1) := by decide +kernel
theorem d_Q_append_20 : decode c_Q_append 20 = .ok (.getfield 85, 3) := by decide +kernel
theorem d_Q_append_23 : decode c_Q_append 23 = .ok (.invokevirtual 126, 3) := by decide +kernel
theorem d_Q_append_26 : decode c_Q_append 26 = .ok (.ireturn, 1) := by decide +kernel
theorem d_Q_lookAtCommit_0 : decode c_Q_lookAtCommit 0 = .ok (.aload_n 1, 1) := by decide +kernel
theorem d_Q_lookAtCommit_1 : decode c_Q_lookAtCommit 1 = .ok (.getfield 85, 3) := by decide +kernel
theorem d_Q_lookAtCommit_4 : decode c_Q_lookAtCommit 4 = .ok (.invokevirtual 115, 3) := by decide +kernel
theorem d_Q_lookAtCommit_7 : decode c_Q_lookAtCommit 7 = .ok (.istore_n 2, 1) := by decide +kernel
theorem d_Q_lookAtCommit_8 : decode c_Q_lookAtCommit 8 = .ok (.aload_n 1, 1) := by decide +kernel
theorem d_Q_lookAtCommit_9 : decode c_Q_lookAtCommit 9 = .ok (.getfield 85, 3) := by decide +kernel
theorem d_Q_lookAtCommit_12 : decode c_Q_lookAtCommit 12 = .ok (.invokevirtual 126, 3) := by decide +kernel
theorem d_Q_lookAtCommit_15 : decode c_Q_lookAtCommit 15 = .ok (.istore_n 3, 1) := by decide +kernel
theorem d_Q_lookAtCommit_16 : decode c_Q_lookAtCommit 16 = .ok (.iload_n 3, 1) := by decide +kernel
theorem d_Q_lookAtCommit_17 : decode c_Q_lookAtCommit 17 = .ok (.aload_n 1, 1) := by decide +kernel
theorem d_Q_lookAtCommit_18 : decode c_Q_lookAtCommit 18 = .ok (.getfield 133, 3) := by decide +kernel
theorem d_Q_lookAtCommit_21 : decode c_Q_lookAtCommit 21 = .ok (.if_icmp .le (44), 3) := by decide +kernel
theorem d_Q_lookAtCommit_24 : decode c_Q_lookAtCommit 24 = .ok (.aload_n 1, 1) := by decide +kernel
theorem d_Q_lookAtCommit_25 : decode c_Q_lookAtCommit 25 = .ok (.getfield 85, 3) := by decide +kernel
theorem d_Q_lookAtCommit_28 : decode c_Q_lookAtCommit 28 = .ok (.iload_n 3, 1) := by decide +kernel
theorem d_Q_lookAtCommit_29 : decode c_Q_lookAtCommit 29 = .ok (.invokevirtual 283, 3) := by decide +kernel
theorem d_Q_lookAtCommit_32 : decode c_Q_lookAtCommit 32 = .ok (.aload_n 1, 1) := by decide +kernel
theorem d_Q_lookAtCommit_33 : decode c_Q_lookAtCommit 33 = .ok (.getfield 61, 3) := by decide +kernel
theorem d_Q_lookAtCommit_36 : decode c_Q_lookAtCommit 36 = .ok (.if_icmp .ne (23), 3) := by decide +kernel
theorem d_Q_lookAtCommit_39 : decode c_Q_lookAtCommit 39 = .ok (.aload_n 1, 1) := by decide +kernel
theorem d_Q_lookAtCommit_40 : decode c_Q_lookAtCommit 40 = .ok (.iload_n 3, 1) := by decide +kernel
theorem d_Q_lookAtCommit_41 : decode c_Q_lookAtCommit 41 = .ok (.invokevirtual 286, 3) := by decide +kernel
theorem d_Q_lookAtCommit_44 : decode c_Q_lookAtCommit 44 = .ok (.iload_n 2, 1) := by decide +kernel
theorem d_Q_lookAtCommit_45 : decode c_Q_lookAtCommit 45 = .ok (.invokestatic 264, 3) := by decide +kernel
theorem d_Q_lookAtCommit_48 : decode c_Q_lookAtCommit 48 = .ok (.ifCond .eq (11), 3) := by decide +kernel
theorem d_Q_lookAtCommit_51 : decode c_Q_lookAtCommit 51 = .ok (.aload_n 1, 1) := by decide +kernel
theorem d_Q_lookAtCommit_52 : decode c_Q_lookAtCommit 52 = .ok (.iload_n 3, 1) := by decide +kernel
theorem d_Q_lookAtCommit_53 : decode c_Q_lookAtCommit 53 = .ok (.putfield 133, 3) := by decide +kernel
theorem d_Q_lookAtCommit_56 : decode c_Q_lookAtCommit 56 = .ok (.goto (9), 3) := by decide +kernel
theorem d_Q_lookAtCommit_59 : decode c_Q_lookAtCommit 59 = .ok (.iinc 3 (-1), 3) := by decide +kernel
theorem d_Q_lookAtCommit_62 : decode c_Q_lookAtCommit 62 = .ok (.goto (-46), 3) := by decide +kernel
theorem d_Q_lookAtCommit_65 : decode c_Q_lookAtCommit 65 = .ok (.aload_n 1, 1) := by decide +kernel
theorem d_Q_lookAtCommit_66 : decode c_Q_lookAtCommit 66 = .ok (.getfield 85, 3) := by decide +kernel
theorem d_Q_lookAtCommit_69 : decode c_Q_lookAtCommit 69 = .ok (.aload_n 1, 1) := by decide +kernel
theorem d_Q_lookAtCommit_70 : decode c_Q_lookAtCommit 70 = .ok (.getfield 85, 3) := by decide +kernel
theorem d_Q_lookAtCommit_73 : decode c_Q_lookAtCommit 73 = .ok (.invokevirtual 126, 3) := by decide +kernel
theorem d_Q_lookAtCommit_76 : decode c_Q_lookAtCommit 76 = .ok (.invokevirtual 129, 3) := by decide +kernel
theorem d_Q_lookAtCommit_79 : decode c_Q_lookAtCommit 79 = .ok (.istore_n 3, 1) := by decide +kernel
theorem d_Q_lookAtCommit_80 : decode c_Q_lookAtCommit 80 = .ok (.iload_n 3, 1) := by decide +kernel
theorem d_Q_lookAtCommit_81 : decode c_Q_lookAtCommit 81 = .ok (.iconst (-1), 1) := by decide +kernel
theorem d_Q_lookAtCommit_82 : decode c_Q_lookAtCommit 82 = .ok (.if_icmp .eq (27), 3) := by decide +kernel
theorem d_Q_lookAtCommit_85 : decode c_Q_lookAtCommit 85 = .ok (.iload_n 3, 1) := by decide +kernel
theorem d_Q_lookAtCommit_86 : decode c_Q_lookAtCommit 86 = .ok (.aload_n 1, 1) := by decide +kernel
theorem d_Q_lookAtCommit_87 : decode c_Q_lookAtCommit 87 = .ok (.getfield 133, 3) := by decide +kernel
theorem d_Q_lookAtCommit_90 : decode c_Q_lookAtCommit 90 = .ok (.if_icmp .gt (19), 3) := by decide +kernel
theorem d_Q_lookAtCommit_93 : decode c_Q_lookAtCommit 93 = .ok (.iload_n 2, 1) := by decide +kernel
theorem d_Q_lookAtCommit_94 : decode c_Q_lookAtCommit 94 = .ok (.aload_n 1, 1) := by decide +kernel
theorem d_Q_lookAtCommit_95 : decode c_Q_lookAtCommit 95 = .ok (.getfield 55, 3) := by decide +kernel
theorem d_Q_lookAtCommit_98 : decode c_Q_lookAtCommit 98 = .ok (.invokestatic 250, 3) := by decide +kernel
theorem d_Q_lookAtCommit_101 : decode c_Q_lookAtCommit 101 = .ok (.ifCond .ne (8), 3) := by decide +kernel
theorem d_Q_lookAtCommit_104 : decode c_Q_lookAtCommit 104 = .ok (.aload_n 0, 1) := by decide +kernel
theorem d_Q_lookAtCommit_105 : decode c_Q_lookAtCommit 105 = .ok (.aload_n 1, 1) := by decide +kernel
theorem d_Q_lookAtCommit_106 : decode c_Q_lookAtCommit 106 = .ok (.invokevirtual 184, 3) := by decide +kernel
theorem d_Q_lookAtCommit_109 : decode c_Q_lookAtCommit 109 = .ok (.return_, 1) := by decide +kernel
theorem d_Q_follow_0 : decode c_Q_follow 0 = .ok (.aload_n 1, 1) := by decide +kernel
theorem d_Q_follow_1 : decode c_Q_follow 1 = .ok (.getfield 51, 3) := by decide +kernel
theorem d_Q_follow_4 : decode c_Q_follow 4 = .ok (.iconst 3, 1) := by decide +kernel
theorem d_Q_follow_5 : decode c_Q_follow 5 = .ok (.if_icmp .ne (14), 3) := by decide +kernel
theorem d_Q_follow_8 : decode c_Q_follow 8 = .ok (.aload_n 0, 1) := by decide +kernel
theorem d_Q_follow_9 : decode c_Q_follow 9 = .ok (.getfield 18, 3) := by decide +kernel
theorem d_Q_follow_12 : decode c_Q_follow 12 = .ok (.aload_n 1, 1) := by decide +kernel
theorem d_Q_follow_13 : decode c_Q_follow 13 = .ok (.getfield 55, 3) := by decide +kernel
theorem d_Q_follow_16 : decode c_Q_follow 16 = .ok (.invokevirtual 315, 3) := by decide +kernel
theorem d_Q_follow_19 : decode c_Q_follow 19 = .ok (.aload_n 1, 1) := by decide +kernel
theorem d_Q_follow_20 : decode c_Q_follow 20 = .ok (.iconst 0, 1) := by decide +kernel
theorem d_Q_follow_21 : decode c_Q_follow 21 = .ok (.putfield 51, 3) := by decide +kernel
theorem d_Q_follow_24 : decode c_Q_follow 24 = .ok (.return_, 1) := by decide +kernel
theorem d_Q_sendToAll_0 : decode c_Q_sendToAll 0 = .ok (.aload_n 1, 1) := by decide +kernel
theorem d_Q_sendToAll_1 : decode c_Q_sendToAll 1 = .ok (.getfield 85, 3) := by decide +kernel
theorem d_Q_sendToAll_4 : decode c_Q_sendToAll 4 = .ok (.invokevirtual 115, 3) := by decide +kernel
theorem d_Q_sendToAll_7 : decode c_Q_sendToAll 7 = .ok (.istore_n 2, 1) := by decide +kernel
theorem d_Q_sendToAll_8 : decode c_Q_sendToAll 8 = .ok (.iconst 0, 1) := by decide +kernel
theorem d_Q_sendToAll_9 : decode c_Q_sendToAll 9 = .ok (.istore_n 3, 1) := by decide +kernel
theorem d_Q_sendToAll_10 : decode c_Q_sendToAll 10 = .ok (.iload_n 3, 1) := by decide +kernel
theorem d_Q_sendToAll_11 : decode c_Q_sendToAll 11 = .ok (.iconst 5, 1) := by decide +kernel
theorem d_Q_sendToAll_12 : decode c_Q_sendToAll 12 = .ok (.if_icmp .ge (31), 3) := by decide +kernel
theorem d_Q_sendToAll_15 : decode c_Q_sendToAll 15 = .ok (.iload_n 3, 1) := by decide +kernel
theorem d_Q_sendToAll_16 : decode c_Q_sendToAll 16 = .ok (.aload_n 1, 1) := by decide +kernel
theorem d_Q_sendToAll_17 : decode c_Q_sendToAll 17 = .ok (.getfield 55, 3) := by decide +kernel
theorem d_Q_sendToAll_20 : decode c_Q_sendToAll 20 = .ok (.if_icmp .eq (17), 3) := by decide +kernel
theorem d_Q_sendToAll_23 : decode c_Q_sendToAll 23 = .ok (.iload_n 2, 1) := by decide +kernel
theorem d_Q_sendToAll_24 : decode c_Q_sendToAll 24 = .ok (.iload_n 3, 1) := by decide +kernel
theorem d_Q_sendToAll_25 : decode c_Q_sendToAll 25 = .ok (.invokestatic 250, 3) := by decide +kernel
theorem d_Q_sendToAll_28 : decode c_Q_sendToAll 28 = .ok (.ifCond .eq (9), 3) := by decide +kernel
theorem d_Q_sendToAll_31 : decode c_Q_sendToAll 31 = .ok (.aload_n 0, 1) := by decide +kernel
theorem d_Q_sendToAll_32 : decode c_Q_sendToAll 32 = .ok (.aload_n 1, 1) := by decide +kernel
theorem d_Q_sendToAll_33 : decode c_Q_sendToAll 33 = .ok (.iload_n 3, 1) := by decide +kernel
theorem d_Q_sendToAll_34 : decode c_Q_sendToAll 34 = .ok (.invokevirtual 289, 3) := by decide +kernel
theorem d_Q_sendToAll_37 : decode c_Q_sendToAll 37 = .ok (.iinc 3 (1), 3) := by decide +kernel
theorem d_Q_sendToAll_40 : decode c_Q_sendToAll 40 = .ok (.goto (-30), 3) := by decide +kernel
theorem d_Q_sendToAll_43 : decode c_Q_sendToAll 43 = .ok (.return_, 1) := by decide +kernel
theorem d_Q_sendTo_0 : decode c_Q_sendTo 0 = .ok (.aload_n 1, 1) := by decide +kernel
theorem d_Q_sendTo_1 : decode c_Q_sendTo 1 = .ok (.getfield 267, 3) := by decide +kernel
theorem d_Q_sendTo_4 : decode c_Q_sendTo 4 = .ok (.iload_n 2, 1) := by decide +kernel
theorem d_Q_sendTo_5 : decode c_Q_sendTo 5 = .ok (.iaload, 1) := by decide +kernel
theorem d_Q_sendTo_6 : decode c_Q_sendTo 6 = .ok (.iconst 1, 1) := by decide +kernel
theorem d_Q_sendTo_7 : decode c_Q_sendTo 7 = .ok (.isub, 1) := by decide +kernel
theorem d_Q_sendTo_8 : decode c_Q_sendTo 8 = .ok (.istore_n 3, 1) := by decide +kernel
theorem d_Q_sendTo_9 : decode c_Q_sendTo 9 = .ok (.iload_n 3, 1) := by decide +kernel
theorem d_Q_sendTo_10 : decode c_Q_sendTo 10 = .ok (.aload_n 1, 1) := by decide +kernel
theorem d_Q_sendTo_11 : decode c_Q_sendTo 11 = .ok (.getfield 85, 3) := by decide +kernel
theorem d_Q_sendTo_14 : decode c_Q_sendTo 14 = .ok (.getfield 170, 3) := by decide +kernel
theorem d_Q_sendTo_17 : decode c_Q_sendTo 17 = .ok (.getfield 174, 3) := by decide +kernel
theorem d_Q_sendTo_20 : decode c_Q_sendTo 20 = .ok (.if_icmp .ge (7), 3) := by decide +kernel
theorem d_Q_sendTo_23 : decode c_Q_sendTo 23 = .ok (.iconst 1, 1) := by decide +kernel
theorem d_Q_sendTo_24 : decode c_Q_sendTo 24 = .ok (.goto (4), 3) := by decide +kernel
theorem d_Q_sendTo_27 : decode c_Q_sendTo 27 = .ok (.iconst 0, 1) := by decide +kernel
theorem d_Q_sendTo_28 : decode c_Q_sendTo 28 = .ok (.istore 4, 2) := by decide +kernel
theorem d_Q_sendTo_30 : decode c_Q_sendTo 30 = .ok (.aload_n 0, 1) := by decide +kernel
theorem d_Q_sendTo_31 : decode c_Q_sendTo 31 = .ok (.getfield 35, 3) := by decide +kernel
theorem d_Q_sendTo_34 : decode c_Q_sendTo 34 = .ok (.iload 4, 2) := by decide +kernel
theorem d_Q_sendTo_36 : decode c_Q_sendTo 36 = .ok (.ifCond .eq (8), 3) := by decide +kernel
theorem d_Q_sendTo_39 : decode c_Q_sendTo 39 = .ok (.bipush (6), 2) := by decide +kernel
theorem d_Q_sendTo_41 : decode c_Q_sendTo 41 = .ok (.goto (4), 3) := by decide +kernel
theorem d_Q_sendTo_44 : decode c_Q_sendTo 44 = .ok (.iconst 4, 1) := by decide +kernel
theorem d_Q_sendTo_45 : decode c_Q_sendTo 45 = .ok (.aload_n 1, 1) := by decide +kernel
theorem d_Q_sendTo_46 : decode c_Q_sendTo 46 = .ok (.getfield 55, 3) := by decide +kernel
theorem d_Q_sendTo_49 : decode c_Q_sendTo 49 = .ok (.iload_n 2, 1) := by decide +kernel
theorem d_Q_sendTo_50 : decode c_Q_sendTo 50 = .ok (.aload_n 1, 1) := by decide +kernel
theorem d_Q_sendTo_51 : decode c_Q_sendTo 51 = .ok (.getfield 61, 3) := by decide +kernel
theorem d_Q_sendTo_54 : decode c_Q_sendTo 54 = .ok (.invokevirtual 254, 3) := by decide +kernel
theorem d_Q_sendTo_57 : decode c_Q_sendTo 57 = .ok (.astore 5, 2) := by decide +kernel
theorem d_Q_sendTo_59 : decode c_Q_sendTo 59 = .ok (.aload 5, 2) := by decide +kernel
theorem d_Q_sendTo_61 : decode c_Q_sendTo 61 = .ok (.aload_n 1, 1) := by decide +kernel
theorem d_Q_sendTo_62 : decode c_Q_sendTo 62 = .ok (.getfield 147, 3) := by decide +kernel
theorem d_Q_sendTo_65 : decode c_Q_sendTo 65 = .ok (.putfield 219, 3) := by decide +kernel
theorem d_Q_sendTo_68 : decode c_Q_sendTo 68 = .ok (.iload 4, 2) := by decide +kernel
theorem d_Q_sendTo_70 : decode c_Q_sendTo 70 = .ok (.ifCond .eq (33), 3) := by decide +kernel
theorem d_Q_sendTo_73 : decode c_Q_sendTo 73 = .ok (.aload 5, 2) := by decide +kernel
theorem d_Q_sendTo_75 : decode c_Q_sendTo 75 = .ok (.aload_n 1, 1) := by decide +kernel
theorem d_Q_sendTo_76 : decode c_Q_sendTo 76 = .ok (.getfield 85, 3) := by decide +kernel
theorem d_Q_sendTo_79 : decode c_Q_sendTo 79 = .ok (.getfield 170, 3) := by decide +kernel
theorem d_Q_sendTo_82 : decode c_Q_sendTo 82 = .ok (.putfield 293, 3) := by decide +kernel
theorem d_Q_sendTo_85 : decode c_Q_sendTo 85 = .ok (.aload 5, 2) := by decide +kernel
theorem d_Q_sendTo_87 : decode c_Q_sendTo 87 = .ok (.aload_n 1, 1) := by decide +kernel
theorem d_Q_sendTo_88 : decode c_Q_sendTo 88 = .ok (.getfield 85, 3) := by decide +kernel
theorem d_Q_sendTo_91 : decode c_Q_sendTo 91 = .ok (.getfield 170, 3) := by decide +kernel
theorem d_Q_sendTo_94 : decode c_Q_sendTo 94 = .ok (.getfield 174, 3) := by decide +kernel
theorem d_Q_sendTo_97 : decode c_Q_sendTo 97 = .ok (.putfield 213, 3) := by decide +kernel
theorem d_Q_sendTo_100 : decode c_Q_sendTo 100 = .ok (.goto (49), 3) := by decide +kernel
theorem d_Q_sendTo_103 : decode c_Q_sendTo 103 = .ok (.aload 5, 2) := by decide +kernel
theorem d_Q_sendTo_105 : decode c_Q_sendTo 105 = .ok (.iload_n 3, 1) := by decide +kernel
theorem d_Q_sendTo_106 : decode c_Q_sendTo 106 = .ok (.putfield 213, 3) := by decide +kernel
theorem d_Q_sendTo_109 : decode c_Q_sendTo 109 = .ok (.aload 5, 2) := by decide +kernel
theorem d_Q_sendTo_111 : decode c_Q_sendTo 111 = .ok (.aload_n 1, 1) := by decide +kernel
theorem d_Q_sendTo_112 : decode c_Q_sendTo 112 = .ok (.getfield 85, 3) := by decide +kernel
theorem d_Q_sendTo_115 : decode c_Q_sendTo 115 = .ok (.iload_n 3, 1) := by decide +kernel
theorem d_Q_sendTo_116 : decode c_Q_sendTo 116 = .ok (.invokevirtual 283, 3) := by decide +kernel
theorem d_Q_sendTo_119 : decode c_Q_sendTo 119 = .ok (.putfield 261, 3) := by decide +kernel
theorem d_Q_sendTo_122 : decode c_Q_sendTo 122 = .ok (.aload 5, 2) := by decide +kernel
theorem d_Q_sendTo_124 : decode c_Q_sendTo 124 = .ok (.aload_n 1, 1) := by decide +kernel
theorem d_Q_sendTo_125 : decode c_Q_sendTo 125 = .ok (.getfield 133, 3) := by decide +kernel
theorem d_Q_sendTo_128 : decode c_Q_sendTo 128 = .ok (.putfield 294, 3) := by decide +kernel
theorem d_Q_sendTo_131 : decode c_Q_sendTo 131 = .ok (.aload 5, 2) := by decide +kernel
theorem d_Q_sendTo_133 : decode c_Q_sendTo 133 = .ok (.aload_n 1, 1) := by decide +kernel
theorem d_Q_sendTo_134 : decode c_Q_sendTo 134 = .ok (.getfield 85, 3) := by decide +kernel
theorem d_Q_sendTo_137 : decode c_Q_sendTo 137 = .ok (.iload_n 3, 1) := by decide +kernel
theorem d_Q_sendTo_138 : decode c_Q_sendTo 138 = .ok (.aload 5, 2) := by decide +kernel
theorem d_Q_sendTo_140 : decode c_Q_sendTo 140 = .ok (.getfield 295, 3) := by decide +kernel
theorem d_Q_sendTo_143 : decode c_Q_sendTo 143 = .ok (.invokevirtual 299, 3) := by decide +kernel
theorem d_Q_sendTo_146 : decode c_Q_sendTo 146 = .ok (.putfield 214, 3) := by decide +kernel
theorem d_Q_sendTo_149 : decode c_Q_sendTo 149 = .ok (.return_, 1) := by decide +kernel
theorem d_Q_beat_0 : decode c_Q_beat 0 = .ok (.iload_n 1, 1) := by decide +kernel
theorem d_Q_beat_1 : decode c_Q_beat 1 = .ok (.invokestatic 39, 3) := by decide +kernel
theorem d_Q_beat_4 : decode c_Q_beat 4 = .ok (.ifCond .eq (15), 3) := by decide +kernel
theorem d_Q_beat_7 : decode c_Q_beat 7 = .ok (.aload_n 0, 1) := by decide +kernel
theorem d_Q_beat_8 : decode c_Q_beat 8 = .ok (.getfield 11, 3) := by decide +kernel
theorem d_Q_beat_11 : decode c_Q_beat 11 = .ok (.iload_n 1, 1) := by decide +kernel
theorem d_Q_beat_12 : decode c_Q_beat 12 = .ok (.aaload, 1) := by decide +kernel
theorem d_Q_beat_13 : decode c_Q_beat 13 = .ok (.invokevirtual 75, 3) := by decide +kernel
theorem d_Q_beat_16 : decode c_Q_beat 16 = .ok (.ifCond .ne (5), 3) := by decide +kernel
theorem d_Q_beat_19 : decode c_Q_beat 19 = .ok (.iconst 0, 1) := by decide +kernel
theorem d_Q_beat_20 : decode c_Q_beat 20 = .ok (.ireturn, 1) := by decide +kernel
theorem d_Q_beat_21 : decode c_Q_beat 21 = .ok (.aload_n 0, 1) := by decide +kernel
theorem d_Q_beat_22 : decode c_Q_beat 22 = .ok (.aload_n 0, 1) := by decide +kernel
theorem d_Q_beat_23 : decode c_Q_beat 23 = .ok (.getfield 11, 3) := by decide +kernel
theorem d_Q_beat_26 : decode c_Q_beat 26 = .ok (.iload_n 1, 1) := by decide +kernel
theorem d_Q_beat_27 : decode c_Q_beat 27 = .ok (.aaload, 1) := by decide +kernel
theorem d_Q_beat_28 : decode c_Q_beat 28 = .ok (.invokevirtual 78, 3) := by decide +kernel
theorem d_Q_beat_31 : decode c_Q_beat 31 = .ok (.iconst 1, 1) := by decide +kernel
theorem d_Q_beat_32 : decode c_Q_beat 32 = .ok (.ireturn, 1) := by decide +kernel
theorem d_Q_outcome_0 : decode c_Q_outcome 0 = .ok (.aload_n 0, 1) := by decide +kernel
theorem d_Q_outcome_1 : decode c_Q_outcome 1 = .ok (.getfield 18, 3) := by decide +kernel
theorem d_Q_outcome_4 : decode c_Q_outcome 4 = .ok (.iload_n 1, 1) := by decide +kernel
theorem d_Q_outcome_5 : decode c_Q_outcome 5 = .ok (.invokevirtual 157, 3) := by decide +kernel
theorem d_Q_outcome_8 : decode c_Q_outcome 8 = .ok (.ifCond .eq (15), 3) := by decide +kernel
theorem d_Q_outcome_11 : decode c_Q_outcome 11 = .ok (.aload_n 0, 1) := by decide +kernel
theorem d_Q_outcome_12 : decode c_Q_outcome 12 = .ok (.getfield 18, 3) := by decide +kernel
theorem d_Q_outcome_15 : decode c_Q_outcome 15 = .ok (.getfield 160, 3) := by decide +kernel
theorem d_Q_outcome_18 : decode c_Q_outcome 18 = .ok (.iload_n 1, 1) := by decide +kernel
theorem d_Q_outcome_19 : decode c_Q_outcome 19 = .ok (.iaload, 1) := by decide +kernel
theorem d_Q_outcome_20 : decode c_Q_outcome 20 = .ok (.goto (4), 3) := by decide +kernel
theorem d_Q_outcome_23 : decode c_Q_outcome 23 = .ok (.iconst (-1), 1) := by decide +kernel
theorem d_Q_outcome_24 : decode c_Q_outcome 24 = .ok (.ireturn, 1) := by decide +kernel
theorem d_Q_value_0 : decode c_Q_value 0 = .ok (.aload_n 0, 1) := by decide +kernel
theorem d_Q_value_1 : decode c_Q_value 1 = .ok (.getfield 18, 3) := by decide +kernel
theorem d_Q_value_4 : decode c_Q_value 4 = .ok (.iload_n 1, 1) := by decide +kernel
theorem d_Q_value_5 : decode c_Q_value 5 = .ok (.invokevirtual 157, 3) := by decide +kernel
theorem d_Q_value_8 : decode c_Q_value 8 = .ok (.ifCond .eq (15), 3) := by decide +kernel
theorem d_Q_value_11 : decode c_Q_value 11 = .ok (.aload_n 0, 1) := by decide +kernel
theorem d_Q_value_12 : decode c_Q_value 12 = .ok (.getfield 18, 3) := by decide +kernel
theorem d_Q_value_15 : decode c_Q_value 15 = .ok (.getfield 164, 3) := by decide +kernel
theorem d_Q_value_18 : decode c_Q_value 18 = .ok (.iload_n 1, 1) := by decide +kernel
theorem d_Q_value_19 : decode c_Q_value 19 = .ok (.iaload, 1) := by decide +kernel
theorem d_Q_value_20 : decode c_Q_value 20 = .ok (.goto (4), 3) := by decide +kernel
theorem d_Q_value_23 : decode c_Q_value 23 = .ok (.iconst 0, 1) := by decide +kernel
theorem d_Q_value_24 : decode c_Q_value 24 = .ok (.ireturn, 1) := by decide +kernel
theorem d_Q_compact_0 : decode c_Q_compact 0 = .ok (.iload_n 1, 1) := by decide +kernel
theorem d_Q_compact_1 : decode c_Q_compact 1 = .ok (.invokestatic 39, 3) := by decide +kernel
theorem d_Q_compact_4 : decode c_Q_compact 4 = .ok (.ifCond .ne (5), 3) := by decide +kernel
theorem d_Q_compact_7 : decode c_Q_compact 7 = .ok (.iconst 0, 1) := by decide +kernel
theorem d_Q_compact_8 : decode c_Q_compact 8 = .ok (.ireturn, 1) := by decide +kernel
theorem d_Q_compact_9 : decode c_Q_compact 9 = .ok (.aload_n 0, 1) := by decide +kernel
theorem d_Q_compact_10 : decode c_Q_compact 10 = .ok (.getfield 11, 3) := by decide +kernel
theorem d_Q_compact_13 : decode c_Q_compact 13 = .ok (.iload_n 1, 1) := by decide +kernel
theorem d_Q_compact_14 : decode c_Q_compact 14 = .ok (.aaload, 1) := by decide +kernel
theorem d_Q_compact_15 : decode c_Q_compact 15 = .ok (.astore_n 2, 1) := by decide +kernel
theorem d_Q_compact_16 : decode c_Q_compact 16 = .ok (.aload_n 2, 1) := by decide +kernel
theorem d_Q_compact_17 : decode c_Q_compact 17 = .ok (.getfield 167, 3) := by decide +kernel
theorem d_Q_compact_20 : decode c_Q_compact 20 = .ok (.ifCond .eq (20), 3) := by decide +kernel
theorem d_Q_compact_23 : decode c_Q_compact 23 = .ok (.aload_n 2, 1) := by decide +kernel
theorem d_Q_compact_24 : decode c_Q_compact 24 = .ok (.getfield 133, 3) := by decide +kernel
theorem d_Q_compact_27 : decode c_Q_compact 27 = .ok (.aload_n 2, 1) := by decide +kernel
theorem d_Q_compact_28 : decode c_Q_compact 28 = .ok (.getfield 85, 3) := by decide +kernel
theorem d_Q_compact_31 : decode c_Q_compact 31 = .ok (.getfield 170, 3) := by decide +kernel
theorem d_Q_compact_34 : decode c_Q_compact 34 = .ok (.getfield 174, 3) := by decide +kernel
theorem d_Q_compact_37 : decode c_Q_compact 37 = .ok (.if_icmp .ne (5), 3) := by decide +kernel
theorem d_Q_compact_40 : decode c_Q_compact 40 = .ok (.iconst 0, 1) := by decide +kernel
theorem d_Q_compact_41 : decode c_Q_compact 41 = .ok (.ireturn, 1) := by decide +kernel
theorem d_Q_compact_42 : decode c_Q_compact 42 = .ok (.aload_n 2, 1) := by decide +kernel
theorem d_Q_compact_43 : decode c_Q_compact 43 = .ok (.getfield 85, 3) := by decide +kernel
theorem d_Q_compact_46 : decode c_Q_compact 46 = .ok (.aload_n 2, 1) := by decide +kernel
theorem d_Q_compact_47 : decode c_Q_compact 47 = .ok (.getfield 85, 3) := by decide +kernel
theorem d_Q_compact_50 : decode c_Q_compact 50 = .ok (.aload_n 2, 1) := by decide +kernel
theorem d_Q_compact_51 : decode c_Q_compact 51 = .ok (.getfield 133, 3) := by decide +kernel
theorem d_Q_compact_54 : decode c_Q_compact 54 = .ok (.invokevirtual 177, 3) := by decide +kernel
theorem d_Q_compact_57 : decode c_Q_compact 57 = .ok (.invokevirtual 181, 3) := by decide +kernel
theorem d_Q_compact_60 : decode c_Q_compact 60 = .ok (.iconst 1, 1) := by decide +kernel
theorem d_Q_compact_61 : decode c_Q_compact 61 = .ok (.ireturn, 1) := by decide +kernel
theorem d_Q_crash_0 : decode c_Q_crash 0 = .ok (.iload_n 1, 1) := by decide +kernel
theorem d_Q_crash_1 : decode c_Q_crash 1 = .ok (.invokestatic 39, 3) := by decide +kernel
theorem d_Q_crash_4 : decode c_Q_crash 4 = .ok (.ifCond .eq (15), 3) := by decide +kernel
theorem d_Q_crash_7 : decode c_Q_crash 7 = .ok (.aload_n 0, 1) := by decide +kernel
theorem d_Q_crash_8 : decode c_Q_crash 8 = .ok (.getfield 11, 3) := by decide +kernel
theorem d_Q_crash_11 : decode c_Q_crash 11 = .ok (.iload_n 1, 1) := by decide +kernel
theorem d_Q_crash_12 : decode c_Q_crash 12 = .ok (.aaload, 1) := by decide +kernel
theorem d_Q_crash_13 : decode c_Q_crash 13 = .ok (.getfield 167, 3) := by decide +kernel
theorem d_Q_crash_16 : decode c_Q_crash 16 = .ok (.ifCond .ne (5), 3) := by decide +kernel
theorem d_Q_crash_19 : decode c_Q_crash 19 = .ok (.iconst 0, 1) := by decide +kernel
theorem d_Q_crash_20 : decode c_Q_crash 20 = .ok (.ireturn, 1) := by decide +kernel
theorem d_Q_crash_21 : decode c_Q_crash 21 = .ok (.aload_n 0, 1) := by decide +kernel
theorem d_Q_crash_22 : decode c_Q_crash 22 = .ok (.getfield 11, 3) := by decide +kernel
theorem d_Q_crash_25 : decode c_Q_crash 25 = .ok (.iload_n 1, 1) := by decide +kernel
theorem d_Q_crash_26 : decode c_Q_crash 26 = .ok (.aaload, 1) := by decide +kernel
theorem d_Q_crash_27 : decode c_Q_crash 27 = .ok (.astore_n 2, 1) := by decide +kernel
theorem d_Q_crash_28 : decode c_Q_crash 28 = .ok (.aload_n 0, 1) := by decide +kernel
theorem d_Q_crash_29 : decode c_Q_crash 29 = .ok (.aload_n 2, 1) := by decide +kernel
theorem d_Q_crash_30 : decode c_Q_crash 30 = .ok (.invokevirtual 184, 3) := by decide +kernel
theorem d_Q_crash_33 : decode c_Q_crash 33 = .ok (.aload_n 2, 1) := by decide +kernel
theorem d_Q_crash_34 : decode c_Q_crash 34 = .ok (.iconst 0, 1) := by decide +kernel
theorem d_Q_crash_35 : decode c_Q_crash 35 = .ok (.putfield 167, 3) := by decide +kernel
theorem d_Q_crash_38 : decode c_Q_crash 38 = .ok (.aload_n 2, 1) := by decide +kernel
theorem d_Q_crash_39 : decode c_Q_crash 39 = .ok (.iconst 0, 1) := by decide +kernel
theorem d_Q_crash_40 : decode c_Q_crash 40 = .ok (.putfield 47, 3) := by decide +kernel
theorem d_Q_crash_43 : decode c_Q_crash 43 = .ok (.aload_n 2, 1) := by decide +kernel
theorem d_Q_crash_44 : decode c_Q_crash 44 = .ok (.aload_n 2, 1) := by decide +kernel
theorem d_Q_crash_45 : decode c_Q_crash 45 = .ok (.getfield 85, 3) := by decide +kernel
theorem d_Q_crash_48 : decode c_Q_crash 48 = .ok (.getfield 170, 3) := by decide +kernel
theorem d_Q_crash_51 : decode c_Q_crash 51 = .ok (.getfield 174, 3) := by decide +kernel
theorem d_Q_crash_54 : decode c_Q_crash 54 = .ok (.putfield 133, 3) := by decide +kernel
theorem d_Q_crash_57 : decode c_Q_crash 57 = .ok (.iconst 1, 1) := by decide +kernel
theorem d_Q_crash_58 : decode c_Q_crash 58 = .ok (.ireturn, 1) := by decide +kernel
theorem d_Q_restart_0 : decode c_Q_restart 0 = .ok (.iload_n 1, 1) := by decide +kernel
theorem d_Q_restart_1 : decode c_Q_restart 1 = .ok (.invokestatic 39, 3) := by decide +kernel
theorem d_Q_restart_4 : decode c_Q_restart 4 = .ok (.ifCond .eq (15), 3) := by decide +kernel
theorem d_Q_restart_7 : decode c_Q_restart 7 = .ok (.aload_n 0, 1) := by decide +kernel
theorem d_Q_restart_8 : decode c_Q_restart 8 = .ok (.getfield 11, 3) := by decide +kernel
theorem d_Q_restart_11 : decode c_Q_restart 11 = .ok (.iload_n 1, 1) := by decide +kernel
theorem d_Q_restart_12 : decode c_Q_restart 12 = .ok (.aaload, 1) := by decide +kernel
theorem d_Q_restart_13 : decode c_Q_restart 13 = .ok (.getfield 167, 3) := by decide +kernel
theorem d_Q_restart_16 : decode c_Q_restart 16 = .ok (.ifCond .eq (5), 3) := by decide +kernel
theorem d_Q_restart_19 : decode c_Q_restart 19 = .ok (.iconst 0, 1) := by decide +kernel
theorem d_Q_restart_20 : decode c_Q_restart 20 = .ok (.ireturn, 1) := by decide +kernel
theorem d_Q_restart_21 : decode c_Q_restart 21 = .ok (.aload_n 0, 1) := by decide +kernel
theorem d_Q_restart_22 : decode c_Q_restart 22 = .ok (.getfield 11, 3) := by decide +kernel
theorem d_Q_restart_25 : decode c_Q_restart 25 = .ok (.iload_n 1, 1) := by decide +kernel
theorem d_Q_restart_26 : decode c_Q_restart 26 = .ok (.aaload, 1) := by decide +kernel
theorem d_Q_restart_27 : decode c_Q_restart 27 = .ok (.iconst 1, 1) := by decide +kernel
theorem d_Q_restart_28 : decode c_Q_restart 28 = .ok (.putfield 167, 3) := by decide +kernel
theorem d_Q_restart_31 : decode c_Q_restart 31 = .ok (.iconst 1, 1) := by decide +kernel
theorem d_Q_restart_32 : decode c_Q_restart 32 = .ok (.ireturn, 1) := by decide +kernel
theorem d_Q_deliver_0 : decode c_Q_deliver 0 = .ok (.aload_n 0, 1) := by decide +kernel
theorem d_Q_deliver_1 : decode c_Q_deliver 1 = .ok (.getfield 35, 3) := by decide +kernel
theorem d_Q_deliver_4 : decode c_Q_deliver 4 = .ok (.iload_n 1, 1) := by decide +kernel
theorem d_Q_deliver_5 : decode c_Q_deliver 5 = .ok (.invokevirtual 187, 3) := by decide +kernel
theorem d_Q_deliver_8 : decode c_Q_deliver 8 = .ok (.ifCond .ne (5), 3) := by decide +kernel
theorem d_Q_deliver_11 : decode c_Q_deliver 11 = .ok (.iconst (-1), 1) := by decide +kernel
theorem d_Q_deliver_12 : decode c_Q_deliver 12 = .ok (.ireturn, 1) := by decide +kernel
theorem d_Q_deliver_13 : decode c_Q_deliver 13 = .ok (.aload_n 0, 1) := by decide +kernel
theorem d_Q_deliver_14 : decode c_Q_deliver 14 = .ok (.getfield 35, 3) := by decide +kernel
theorem d_Q_deliver_17 : decode c_Q_deliver 17 = .ok (.iload_n 1, 1) := by decide +kernel
theorem d_Q_deliver_18 : decode c_Q_deliver 18 = .ok (.invokevirtual 188, 3) := by decide +kernel
theorem d_Q_deliver_21 : decode c_Q_deliver 21 = .ok (.astore_n 2, 1) := by decide +kernel
theorem d_Q_deliver_22 : decode c_Q_deliver 22 = .ok (.aload_n 0, 1) := by decide +kernel
theorem d_Q_deliver_23 : decode c_Q_deliver 23 = .ok (.getfield 11, 3) := by decide +kernel
theorem d_Q_deliver_26 : decode c_Q_deliver 26 = .ok (.aload_n 2, 1) := by decide +kernel
theorem d_Q_deliver_27 : decode c_Q_deliver 27 = .ok (.getfield 192, 3) := by decide +kernel
theorem d_Q_deliver_30 : decode c_Q_deliver 30 = .ok (.aaload, 1) := by decide +kernel
theorem d_Q_deliver_31 : decode c_Q_deliver 31 = .ok (.astore_n 3, 1) := by decide +kernel
theorem d_Q_deliver_32 : decode c_Q_deliver 32 = .ok (.aload_n 3, 1) := by decide +kernel
theorem d_Q_deliver_33 : decode c_Q_deliver 33 = .ok (.getfield 167, 3) := by decide +kernel
theorem d_Q_deliver_36 : decode c_Q_deliver 36 = .ok (.ifCond .eq (19), 3) := by decide +kernel
theorem d_Q_deliver_39 : decode c_Q_deliver 39 = .ok (.aload_n 0, 1) := by decide +kernel
theorem d_Q_deliver_40 : decode c_Q_deliver 40 = .ok (.aload_n 3, 1) := by decide +kernel
theorem d_Q_deliver_41 : decode c_Q_deliver 41 = .ok (.aload_n 2, 1) := by decide +kernel
theorem d_Q_deliver_42 : decode c_Q_deliver 42 = .ok (.invokevirtual 197, 3) := by decide +kernel
theorem d_Q_deliver_45 : decode c_Q_deliver 45 = .ok (.aload_n 0, 1) := by decide +kernel
theorem d_Q_deliver_46 : decode c_Q_deliver 46 = .ok (.aload_n 3, 1) := by decide +kernel
theorem d_Q_deliver_47 : decode c_Q_deliver 47 = .ok (.invokevirtual 68, 3) := by decide +kernel
theorem d_Q_deliver_50 : decode c_Q_deliver 50 = .ok (.aload_n 0, 1) := by decide +kernel
theorem d_Q_deliver_51 : decode c_Q_deliver 51 = .ok (.aload_n 3, 1) := by decide +kernel
theorem d_Q_deliver_52 : decode c_Q_deliver 52 = .ok (.invokevirtual 72, 3) := by decide +kernel
theorem d_Q_deliver_55 : decode c_Q_deliver 55 = .ok (.aload_n 2, 1) := by decide +kernel
theorem d_Q_deliver_56 : decode c_Q_deliver 56 = .ok (.getfield 201, 3) := by decide +kernel
theorem d_Q_deliver_59 : decode c_Q_deliver 59 = .ok (.ireturn, 1) := by decide +kernel
theorem d_Q_come_0 : decode c_Q_come 0 = .ok (.aload_n 2, 1) := by decide +kernel
theorem d_Q_come_1 : decode c_Q_come 1 = .ok (.getfield 201, 3) := by decide +kernel
theorem d_Q_come_4 : decode c_Q_come 4 = .ok (.ifCond .eq (31), 3) := by decide +kernel
theorem d_Q_come_7 : decode c_Q_come 7 = .ok (.aload_n 2, 1) := by decide +kernel
theorem d_Q_come_8 : decode c_Q_come 8 = .ok (.getfield 201, 3) := by decide +kernel
theorem d_Q_come_11 : decode c_Q_come 11 = .ok (.iconst 1, 1) := by decide +kernel
theorem d_Q_come_12 : decode c_Q_come 12 = .ok (.if_icmp .eq (23), 3) := by decide +kernel
theorem d_Q_come_15 : decode c_Q_come 15 = .ok (.aload_n 2, 1) := by decide +kernel
theorem d_Q_come_16 : decode c_Q_come 16 = .ok (.getfield 212, 3) := by decide +kernel
theorem d_Q_come_19 : decode c_Q_come 19 = .ok (.aload_n 1, 1) := by decide +kernel
theorem d_Q_come_20 : decode c_Q_come 20 = .ok (.getfield 61, 3) := by decide +kernel
theorem d_Q_come_23 : decode c_Q_come 23 = .ok (.if_icmp .le (12), 3) := by decide +kernel
theorem d_Q_come_26 : decode c_Q_come 26 = .ok (.aload_n 0, 1) := by decide +kernel
theorem d_Q_come_27 : decode c_Q_come 27 = .ok (.aload_n 1, 1) := by decide +kernel
theorem d_Q_come_28 : decode c_Q_come 28 = .ok (.aload_n 2, 1) := by decide +kernel
theorem d_Q_come_29 : decode c_Q_come 29 = .ok (.getfield 212, 3) := by decide +kernel
theorem d_Q_come_32 : decode c_Q_come 32 = .ok (.invokevirtual 319, 3) := by decide +kernel
theorem d_Q_come_35 : decode c_Q_come 35 = .ok (.aload_n 2, 1) := by decide +kernel
theorem d_Q_come_36 : decode c_Q_come 36 = .ok (.getfield 201, 3) := by decide +kernel
theorem d_Q_come_39 : decode c_Q_come 39 = .ok (.tableswitch (104) (0) (6) #[41, 50, 59, 68, 77, 86, 95], 41) := by decide +kernel
theorem d_Q_come_80 : decode c_Q_come 80 = .ok (.aload_n 0, 1) := by decide +kernel
theorem d_Q_come_81 : decode c_Q_come 81 = .ok (.aload_n 1, 1) := by decide +kernel
theorem d_Q_come_82 : decode c_Q_come 82 = .ok (.aload_n 2, 1) := by decide +kernel
theorem d_Q_come_83 : decode c_Q_come 83 = .ok (.invokevirtual 322, 3) := by decide +kernel
theorem d_Q_come_86 : decode c_Q_come 86 = .ok (.goto (57), 3) := by decide +kernel
theorem d_Q_come_89 : decode c_Q_come 89 = .ok (.aload_n 0, 1) := by decide +kernel
theorem d_Q_come_90 : decode c_Q_come 90 = .ok (.aload_n 1, 1) := by decide +kernel
theorem d_Q_come_91 : decode c_Q_come 91 = .ok (.aload_n 2, 1) := by decide +kernel
theorem d_Q_come_92 : decode c_Q_come 92 = .ok (.invokevirtual 325, 3) := by decide +kernel
theorem d_Q_come_95 : decode c_Q_come 95 = .ok (.goto (48), 3) := by decide +kernel
theorem d_Q_come_98 : decode c_Q_come 98 = .ok (.aload_n 0, 1) := by decide +kernel
theorem d_Q_come_99 : decode c_Q_come 99 = .ok (.aload_n 1, 1) := by decide +kernel
theorem d_Q_come_100 : decode c_Q_come 100 = .ok (.aload_n 2, 1) := by decide +kernel
theorem d_Q_come_101 : decode c_Q_come 101 = .ok (.invokevirtual 328, 3) := by decide +kernel
theorem d_Q_come_104 : decode c_Q_come 104 = .ok (.goto (39), 3) := by decide +kernel
theorem d_Q_come_107 : decode c_Q_come 107 = .ok (.aload_n 0, 1) := by decide +kernel
theorem d_Q_come_108 : decode c_Q_come 108 = .ok (.aload_n 1, 1) := by decide +kernel
theorem d_Q_come_109 : decode c_Q_come 109 = .ok (.aload_n 2, 1) := by decide +kernel
theorem d_Q_come_110 : decode c_Q_come 110 = .ok (.invokevirtual 331, 3) := by decide +kernel
theorem d_Q_come_113 : decode c_Q_come 113 = .ok (.goto (30), 3) := by decide +kernel
theorem d_Q_come_116 : decode c_Q_come 116 = .ok (.aload_n 0, 1) := by decide +kernel
theorem d_Q_come_117 : decode c_Q_come 117 = .ok (.aload_n 1, 1) := by decide +kernel
theorem d_Q_come_118 : decode c_Q_come 118 = .ok (.aload_n 2, 1) := by decide +kernel
theorem d_Q_come_119 : decode c_Q_come 119 = .ok (.invokevirtual 334, 3) := by decide +kernel
theorem d_Q_come_122 : decode c_Q_come 122 = .ok (.goto (21), 3) := by decide +kernel
theorem d_Q_come_125 : decode c_Q_come 125 = .ok (.aload_n 0, 1) := by decide +kernel
theorem d_Q_come_126 : decode c_Q_come 126 = .ok (.aload_n 1, 1) := by decide +kernel
theorem d_Q_come_127 : decode c_Q_come 127 = .ok (.aload_n 2, 1) := by decide +kernel
theorem d_Q_come_128 : decode c_Q_come 128 = .ok (.invokevirtual 337, 3) := by decide +kernel
theorem d_Q_come_131 : decode c_Q_come 131 = .ok (.goto (12), 3) := by decide +kernel
theorem d_Q_come_134 : decode c_Q_come 134 = .ok (.aload_n 0, 1) := by decide +kernel
theorem d_Q_come_135 : decode c_Q_come 135 = .ok (.aload_n 1, 1) := by decide +kernel
theorem d_Q_come_136 : decode c_Q_come 136 = .ok (.aload_n 2, 1) := by decide +kernel
theorem d_Q_come_137 : decode c_Q_come 137 = .ok (.invokevirtual 340, 3) := by decide +kernel
theorem d_Q_come_140 : decode c_Q_come 140 = .ok (.goto (3), 3) := by decide +kernel
theorem d_Q_come_143 : decode c_Q_come 143 = .ok (.return_, 1) := by decide +kernel
theorem d_Q_enterTerm_0 : decode c_Q_enterTerm 0 = .ok (.aload_n 1, 1) := by decide +kernel
theorem d_Q_enterTerm_1 : decode c_Q_enterTerm 1 = .ok (.iload_n 2, 1) := by decide +kernel
theorem d_Q_enterTerm_2 : decode c_Q_enterTerm 2 = .ok (.putfield 61, 3) := by decide +kernel
theorem d_Q_enterTerm_5 : decode c_Q_enterTerm 5 = .ok (.aload_n 1, 1) := by decide +kernel
theorem d_Q_enterTerm_6 : decode c_Q_enterTerm 6 = .ok (.iconst (-1), 1) := by decide +kernel
theorem d_Q_enterTerm_7 : decode c_Q_enterTerm 7 = .ok (.putfield 220, 3) := by decide +kernel
theorem d_Q_enterTerm_10 : decode c_Q_enterTerm 10 = .ok (.aload_n 0, 1) := by decide +kernel
theorem d_Q_enterTerm_11 : decode c_Q_enterTerm 11 = .ok (.aload_n 1, 1) := by decide +kernel
theorem d_Q_enterTerm_12 : decode c_Q_enterTerm 12 = .ok (.invokevirtual 184, 3) := by decide +kernel
theorem d_Q_enterTerm_15 : decode c_Q_enterTerm 15 = .ok (.return_, 1) := by decide +kernel
theorem d_Q_questionComes_0 : decode c_Q_questionComes 0 = .ok (.aload_n 1, 1) := by decide +kernel
theorem d_Q_questionComes_1 : decode c_Q_questionComes 1 = .ok (.getfield 47, 3) := by decide +kernel
theorem d_Q_questionComes_4 : decode c_Q_questionComes 4 = .ok (.ifCond .ne (29), 3) := by decide +kernel
theorem d_Q_questionComes_7 : decode c_Q_questionComes 7 = .ok (.aload_n 2, 1) := by decide +kernel
theorem d_Q_questionComes_8 : decode c_Q_questionComes 8 = .ok (.getfield 212, 3) := by decide +kernel
theorem d_Q_questionComes_11 : decode c_Q_questionComes 11 = .ok (.aload_n 1, 1) := by decide +kernel
theorem d_Q_questionComes_12 : decode c_Q_questionComes 12 = .ok (.getfield 61, 3) := by decide +kernel
theorem d_Q_questionComes_15 : decode c_Q_questionComes 15 = .ok (.if_icmp .le (18), 3) := by decide +kernel
theorem d_Q_questionComes_18 : decode c_Q_questionComes 18 = .ok (.aload_n 1, 1) := by decide +kernel
theorem d_Q_questionComes_19 : decode c_Q_questionComes 19 = .ok (.getfield 85, 3) := by decide +kernel
theorem d_Q_questionComes_22 : decode c_Q_questionComes 22 = .ok (.aload_n 2, 1) := by decide +kernel
theorem d_Q_questionComes_23 : decode c_Q_questionComes 23 = .ok (.invokevirtual 343, 3) := by decide +kernel
theorem d_Q_questionComes_26 : decode c_Q_questionComes 26 = .ok (.ifCond .ne (7), 3) := by decide +kernel
theorem d_Q_questionComes_29 : decode c_Q_questionComes 29 = .ok (.iconst 1, 1) := by decide +kernel
theorem d_Q_questionComes_30 : decode c_Q_questionComes 30 = .ok (.goto (4), 3) := by decide +kernel
theorem d_Q_questionComes_33 : decode c_Q_questionComes 33 = .ok (.iconst 0, 1) := by decide +kernel
theorem d_Q_questionComes_34 : decode c_Q_questionComes 34 = .ok (.istore_n 3, 1) := by decide +kernel
theorem d_Q_questionComes_35 : decode c_Q_questionComes 35 = .ok (.aload_n 0, 1) := by decide +kernel
theorem d_Q_questionComes_36 : decode c_Q_questionComes 36 = .ok (.getfield 35, 3) := by decide +kernel
theorem d_Q_questionComes_39 : decode c_Q_questionComes 39 = .ok (.iconst 1, 1) := by decide +kernel
theorem d_Q_questionComes_40 : decode c_Q_questionComes 40 = .ok (.aload_n 1, 1) := by decide +kernel
theorem d_Q_questionComes_41 : decode c_Q_questionComes 41 = .ok (.getfield 55, 3) := by decide +kernel
theorem d_Q_questionComes_44 : decode c_Q_questionComes 44 = .ok (.aload_n 2, 1) := by decide +kernel
theorem d_Q_questionComes_45 : decode c_Q_questionComes 45 = .ok (.getfield 209, 3) := by decide +kernel
theorem d_Q_questionComes_48 : decode c_Q_questionComes 48 = .ok (.iload_n 3, 1) := by decide +kernel
theorem d_Q_questionComes_49 : decode c_Q_questionComes 49 = .ok (.ifCond .eq (10), 3) := by decide +kernel
theorem d_Q_questionComes_52 : decode c_Q_questionComes 52 = .ok (.aload_n 2, 1) := by decide +kernel
theorem d_Q_questionComes_53 : decode c_Q_questionComes 53 = .ok (.getfield 212, 3) := by decide +kernel
theorem d_Q_questionComes_56 : decode c_Q_questionComes 56 = .ok (.goto (7), 3) := by decide +kernel
theorem d_Q_questionComes_59 : decode c_Q_questionComes 59 = .ok (.aload_n 1, 1) := by decide +kernel
theorem d_Q_questionComes_60 : decode c_Q_questionComes 60 = .ok (.getfield 61, 3) := by decide +kernel
theorem d_Q_questionComes_63 : decode c_Q_questionComes 63 = .ok (.invokevirtual 254, 3) := by decide +kernel
theorem d_Q_questionComes_66 : decode c_Q_questionComes 66 = .ok (.astore 4, 2) := by decide +kernel
theorem d_Q_questionComes_68 : decode c_Q_questionComes 68 = .ok (.aload 4, 2) := by decide +kernel
theorem d_Q_questionComes_70 : decode c_Q_questionComes 70 = .ok (.iload_n 3, 1) := by decide +kernel
theorem d_Q_questionComes_71 : decode c_Q_questionComes 71 = .ok (.putfield 217, 3) := by decide +kernel
theorem d_Q_questionComes_74 : decode c_Q_questionComes 74 = .ok (.return_, 1) := by decide +kernel
theorem d_Q_answerComes_0 : decode c_Q_answerComes 0 = .ok (.aload_n 2, 1) := by decide +kernel
theorem d_Q_answerComes_1 : decode c_Q_answerComes 1 = .ok (.getfield 217, 3) := by decide +kernel
theorem d_Q_answerComes_4 : decode c_Q_answerComes 4 = .ok (.ifCond .eq (42), 3) := by decide +kernel
theorem d_Q_answerComes_7 : decode c_Q_answerComes 7 = .ok (.aload_n 1, 1) := by decide +kernel
theorem d_Q_answerComes_8 : decode c_Q_answerComes 8 = .ok (.getfield 51, 3) := by decide +kernel
theorem d_Q_answerComes_11 : decode c_Q_answerComes 11 = .ok (.iconst 1, 1) := by decide +kernel
theorem d_Q_answerComes_12 : decode c_Q_answerComes 12 = .ok (.if_icmp .ne (54), 3) := by decide +kernel
theorem d_Q_answerComes_15 : decode c_Q_answerComes 15 = .ok (.aload_n 2, 1) := by decide +kernel
theorem d_Q_answerComes_16 : decode c_Q_answerComes 16 = .ok (.getfield 212, 3) := by decide +kernel
theorem d_Q_answerComes_19 : decode c_Q_answerComes 19 = .ok (.aload_n 1, 1) := by decide +kernel
theorem d_Q_answerComes_20 : decode c_Q_answerComes 20 = .ok (.getfield 61, 3) := by decide +kernel
theorem d_Q_answerComes_23 : decode c_Q_answerComes 23 = .ok (.iconst 1, 1) := by decide +kernel
theorem d_Q_answerComes_24 : decode c_Q_answerComes 24 = .ok (.iadd, 1) := by decide +kernel
theorem d_Q_answerComes_25 : decode c_Q_answerComes 25 = .ok (.if_icmp .ne (41), 3) := by decide +kernel
theorem d_Q_answerComes_28 : decode c_Q_answerComes 28 = .ok (.aload_n 1, 1) := by decide +kernel
theorem d_Q_answerComes_29 : decode c_Q_answerComes 29 = .ok (.dup, 1) := by decide +kernel
theorem d_Q_answerComes_30 : decode c_Q_answerComes 30 = .ok (.getfield 58, 3) := by decide +kernel
theorem d_Q_answerComes_33 : decode c_Q_answerComes 33 = .ok (.iconst 1, 1) := by decide +kernel
theorem d_Q_answerComes_34 : decode c_Q_answerComes 34 = .ok (.aload_n 2, 1) := by decide +kernel
theorem d_Q_answerComes_35 : decode c_Q_answerComes 35 = .ok (.getfield 209, 3) := by decide +kernel
theorem d_Q_answerComes_38 : decode c_Q_answerComes 38 = .ok (.ishl, 1) := by decide +kernel
theorem d_Q_answerComes_39 : decode c_Q_answerComes 39 = .ok (.ior, 1) := by decide +kernel
theorem d_Q_answerComes_40 : decode c_Q_answerComes 40 = .ok (.putfield 58, 3) := by decide +kernel
theorem d_Q_answerComes_43 : decode c_Q_answerComes 43 = .ok (.goto (23), 3) := by decide +kernel
theorem d_Q_answerComes_46 : decode c_Q_answerComes 46 = .ok (.aload_n 2, 1) := by decide +kernel
theorem d_Q_answerComes_47 : decode c_Q_answerComes 47 = .ok (.getfield 212, 3) := by decide +kernel
theorem d_Q_answerComes_50 : decode c_Q_answerComes 50 = .ok (.aload_n 1, 1) := by decide +kernel
theorem d_Q_answerComes_51 : decode c_Q_answerComes 51 = .ok (.getfield 61, 3) := by decide +kernel
theorem d_Q_answerComes_54 : decode c_Q_answerComes 54 = .ok (.if_icmp .le (12), 3) := by decide +kernel
theorem d_Q_answerComes_57 : decode c_Q_answerComes 57 = .ok (.aload_n 0, 1) := by decide +kernel
theorem d_Q_answerComes_58 : decode c_Q_answerComes 58 = .ok (.aload_n 1, 1) := by decide +kernel
theorem d_Q_answerComes_59 : decode c_Q_answerComes 59 = .ok (.aload_n 2, 1) := by decide +kernel
theorem d_Q_answerComes_60 : decode c_Q_answerComes 60 = .ok (.getfield 212, 3) := by decide +kernel
theorem d_Q_answerComes_63 : decode c_Q_answerComes 63 = .ok (.invokevirtual 319, 3) := by decide +kernel
theorem d_Q_answerComes_66 : decode c_Q_answerComes 66 = .ok (.return_, 1) := by decide +kernel
theorem d_Q_callComes_0 : decode c_Q_callComes 0 = .ok (.aload_n 1, 1) := by decide +kernel
theorem d_Q_callComes_1 : decode c_Q_callComes 1 = .ok (.getfield 220, 3) := by decide +kernel
theorem d_Q_callComes_4 : decode c_Q_callComes 4 = .ok (.iconst (-1), 1) := by decide +kernel
theorem d_Q_callComes_5 : decode c_Q_callComes 5 = .ok (.if_icmp .eq (14), 3) := by decide +kernel
theorem d_Q_callComes_8 : decode c_Q_callComes 8 = .ok (.aload_n 1, 1) := by decide +kernel
theorem d_Q_callComes_9 : decode c_Q_callComes 9 = .ok (.getfield 220, 3) := by decide +kernel
theorem d_Q_callComes_12 : decode c_Q_callComes 12 = .ok (.aload_n 2, 1) := by decide +kernel
theorem d_Q_callComes_13 : decode c_Q_callComes 13 = .ok (.getfield 209, 3) := by decide +kernel
theorem d_Q_callComes_16 : decode c_Q_callComes 16 = .ok (.if_icmp .ne (7), 3) := by decide +kernel
theorem d_Q_callComes_19 : decode c_Q_callComes 19 = .ok (.iconst 1, 1) := by decide +kernel
theorem d_Q_callComes_20 : decode c_Q_callComes 20 = .ok (.goto (4), 3) := by decide +kernel
theorem d_Q_callComes_23 : decode c_Q_callComes 23 = .ok (.iconst 0, 1) := by decide +kernel
theorem d_Q_callComes_24 : decode c_Q_callComes 24 = .ok (.istore_n 3, 1) := by decide +kernel
theorem d_Q_callComes_25 : decode c_Q_callComes 25 = .ok (.aload_n 2, 1) := by decide +kernel
theorem d_Q_callComes_26 : decode c_Q_callComes 26 = .ok (.getfield 212, 3) := by decide +kernel
theorem d_Q_callComes_29 : decode c_Q_callComes 29 = .ok (.aload_n 1, 1) := by decide +kernel
theorem d_Q_callComes_30 : decode c_Q_callComes 30 = .ok (.getfield 61, 3) := by decide +kernel
theorem d_Q_callComes_33 : decode c_Q_callComes 33 = .ok (.if_icmp .ne (22), 3) := by decide +kernel
theorem d_Q_callComes_36 : decode c_Q_callComes 36 = .ok (.iload_n 3, 1) := by decide +kernel
theorem d_Q_callComes_37 : decode c_Q_callComes 37 = .ok (.ifCond .eq (18), 3) := by decide +kernel
theorem d_Q_callComes_40 : decode c_Q_callComes 40 = .ok (.aload_n 1, 1) := by decide +kernel
theorem d_Q_callComes_41 : decode c_Q_callComes 41 = .ok (.getfield 85, 3) := by decide +kernel
theorem d_Q_callComes_44 : decode c_Q_callComes 44 = .ok (.aload_n 2, 1) := by decide +kernel
theorem d_Q_callComes_45 : decode c_Q_callComes 45 = .ok (.invokevirtual 343, 3) := by decide +kernel
theorem d_Q_callComes_48 : decode c_Q_callComes 48 = .ok (.ifCond .ne (7), 3) := by decide +kernel
theorem d_Q_callComes_51 : decode c_Q_callComes 51 = .ok (.iconst 1, 1) := by decide +kernel
theorem d_Q_callComes_52 : decode c_Q_callComes 52 = .ok (.goto (4), 3) := by decide +kernel
theorem d_Q_callComes_55 : decode c_Q_callComes 55 = .ok (.iconst 0, 1) := by decide +kernel
theorem d_Q_callComes_56 : decode c_Q_callComes 56 = .ok (.istore 4, 2) := by decide +kernel
theorem d_Q_callComes_58 : decode c_Q_callComes 58 = .ok (.iload 4, 2) := by decide +kernel
theorem d_Q_callComes_60 : decode c_Q_callComes 60 = .ok (.ifCond .eq (11), 3) := by decide +kernel
theorem d_Q_callComes_63 : decode c_Q_callComes 63 = .ok (.aload_n 1, 1) := by decide +kernel
theorem d_Q_callComes_64 : decode c_Q_callComes 64 = .ok (.aload_n 2, 1) := by decide +kernel
theorem d_Q_callComes_65 : decode c_Q_callComes 65 = .ok (.getfield 209, 3) := by decide +kernel
theorem d_Q_callComes_68 : decode c_Q_callComes 68 = .ok (.putfield 220, 3) := by decide +kernel
theorem d_Q_callComes_71 : decode c_Q_callComes 71 = .ok (.aload_n 0, 1) := by decide +kernel
theorem d_Q_callComes_72 : decode c_Q_callComes 72 = .ok (.getfield 35, 3) := by decide +kernel
theorem d_Q_callComes_75 : decode c_Q_callComes 75 = .ok (.iconst 3, 1) := by decide +kernel
theorem d_Q_callComes_76 : decode c_Q_callComes 76 = .ok (.aload_n 1, 1) := by decide +kernel
theorem d_Q_callComes_77 : decode c_Q_callComes 77 = .ok (.getfield 55, 3) := by decide +kernel
theorem d_Q_callComes_80 : decode c_Q_callComes 80 = .ok (.aload_n 2, 1) := by decide +kernel
theorem d_Q_callComes_81 : decode c_Q_callComes 81 = .ok (.getfield 209, 3) := by decide +kernel
theorem d_Q_callComes_84 : decode c_Q_callComes 84 = .ok (.aload_n 1, 1) := by decide +kernel
theorem d_Q_callComes_85 : decode c_Q_callComes 85 = .ok (.getfield 61, 3) := by decide +kernel
theorem d_Q_callComes_88 : decode c_Q_callComes 88 = .ok (.invokevirtual 254, 3) := by decide +kernel
theorem d_Q_callComes_91 : decode c_Q_callComes 91 = .ok (.astore 5, 2) := by decide +kernel
theorem d_Q_callComes_93 : decode c_Q_callComes 93 = .ok (.aload 5, 2) := by decide +kernel
theorem d_Q_callComes_95 : decode c_Q_callComes 95 = .ok (.iload 4, 2) := by decide +kernel
theorem d_Q_callComes_97 : decode c_Q_callComes 97 = .ok (.putfield 217, 3) := by decide +kernel
theorem d_Q_callComes_100 : decode c_Q_callComes 100 = .ok (.return_, 1) := by decide +kernel
theorem d_Q_voteComes_0 : decode c_Q_voteComes 0 = .ok (.aload_n 2, 1) := by decide +kernel
theorem d_Q_voteComes_1 : decode c_Q_voteComes 1 = .ok (.getfield 217, 3) := by decide +kernel
theorem d_Q_voteComes_4 : decode c_Q_voteComes 4 = .ok (.ifCond .eq (37), 3) := by decide +kernel
theorem d_Q_voteComes_7 : decode c_Q_voteComes 7 = .ok (.aload_n 1, 1) := by decide +kernel
theorem d_Q_voteComes_8 : decode c_Q_voteComes 8 = .ok (.getfield 51, 3) := by decide +kernel
theorem d_Q_voteComes_11 : decode c_Q_voteComes 11 = .ok (.iconst 2, 1) := by decide +kernel
theorem d_Q_voteComes_12 : decode c_Q_voteComes 12 = .ok (.if_icmp .ne (29), 3) := by decide +kernel
theorem d_Q_voteComes_15 : decode c_Q_voteComes 15 = .ok (.aload_n 2, 1) := by decide +kernel
theorem d_Q_voteComes_16 : decode c_Q_voteComes 16 = .ok (.getfield 212, 3) := by decide +kernel
theorem d_Q_voteComes_19 : decode c_Q_voteComes 19 = .ok (.aload_n 1, 1) := by decide +kernel
theorem d_Q_voteComes_20 : decode c_Q_voteComes 20 = .ok (.getfield 61, 3) := by decide +kernel
theorem d_Q_voteComes_23 : decode c_Q_voteComes 23 = .ok (.if_icmp .ne (18), 3) := by decide +kernel
theorem d_Q_voteComes_26 : decode c_Q_voteComes 26 = .ok (.aload_n 1, 1) := by decide +kernel
theorem d_Q_voteComes_27 : decode c_Q_voteComes 27 = .ok (.dup, 1) := by decide +kernel
theorem d_Q_voteComes_28 : decode c_Q_voteComes 28 = .ok (.getfield 58, 3) := by decide +kernel
theorem d_Q_voteComes_31 : decode c_Q_voteComes 31 = .ok (.iconst 1, 1) := by decide +kernel
theorem d_Q_voteComes_32 : decode c_Q_voteComes 32 = .ok (.aload_n 2, 1) := by decide +kernel
theorem d_Q_voteComes_33 : decode c_Q_voteComes 33 = .ok (.getfield 209, 3) := by decide +kernel
theorem d_Q_voteComes_36 : decode c_Q_voteComes 36 = .ok (.ishl, 1) := by decide +kernel
theorem d_Q_voteComes_37 : decode c_Q_voteComes 37 = .ok (.ior, 1) := by decide +kernel
theorem d_Q_voteComes_38 : decode c_Q_voteComes 38 = .ok (.putfield 58, 3) := by decide +kernel
theorem d_Q_voteComes_41 : decode c_Q_voteComes 41 = .ok (.return_, 1) := by decide +kernel
theorem d_Q_appendComes_0 : decode c_Q_appendComes 0 = .ok (.aload_n 2, 1) := by decide +kernel
theorem d_Q_appendComes_1 : decode c_Q_appendComes 1 = .ok (.getfield 212, 3) := by decide +kernel
theorem d_Q_appendComes_4 : decode c_Q_appendComes 4 = .ok (.aload_n 1, 1) := by decide +kernel
theorem d_Q_appendComes_5 : decode c_Q_appendComes 5 = .ok (.getfield 61, 3) := by decide +kernel
theorem d_Q_appendComes_8 : decode c_Q_appendComes 8 = .ok (.if_icmp .ge (16), 3) := by decide +kernel
theorem d_Q_appendComes_11 : decode c_Q_appendComes 11 = .ok (.aload_n 0, 1) := by decide +kernel
theorem d_Q_appendComes_12 : decode c_Q_appendComes 12 = .ok (.aload_n 1, 1) := by decide +kernel
theorem d_Q_appendComes_13 : decode c_Q_appendComes 13 = .ok (.aload_n 2, 1) := by decide +kernel
theorem d_Q_appendComes_14 : decode c_Q_appendComes 14 = .ok (.getfield 209, 3) := by decide +kernel
theorem d_Q_appendComes_17 : decode c_Q_appendComes 17 = .ok (.iconst 0, 1) := by decide +kernel
theorem d_Q_appendComes_18 : decode c_Q_appendComes 18 = .ok (.iconst 0, 1) := by decide +kernel
theorem d_Q_appendComes_19 : decode c_Q_appendComes 19 = .ok (.iconst 0, 1) := by decide +kernel
theorem d_Q_appendComes_20 : decode c_Q_appendComes 20 = .ok (.invokevirtual 347, 3) := by decide +kernel
theorem d_Q_appendComes_23 : decode c_Q_appendComes 23 = .ok (.return_, 1) := by decide +kernel
theorem d_Q_appendComes_24 : decode c_Q_appendComes 24 = .ok (.aload_n 0, 1) := by decide +kernel
theorem d_Q_appendComes_25 : decode c_Q_appendComes 25 = .ok (.aload_n 1, 1) := by decide +kernel
theorem d_Q_appendComes_26 : decode c_Q_appendComes 26 = .ok (.invokevirtual 184, 3) := by decide +kernel
theorem d_Q_appendComes_29 : decode c_Q_appendComes 29 = .ok (.aload_n 1, 1) := by decide +kernel
theorem d_Q_appendComes_30 : decode c_Q_appendComes 30 = .ok (.iconst 1, 1) := by decide +kernel
theorem d_Q_appendComes_31 : decode c_Q_appendComes 31 = .ok (.putfield 47, 3) := by decide +kernel
theorem d_Q_appendComes_34 : decode c_Q_appendComes 34 = .ok (.aload_n 1, 1) := by decide +kernel
theorem d_Q_appendComes_35 : decode c_Q_appendComes 35 = .ok (.getfield 85, 3) := by decide +kernel
theorem d_Q_appendComes_38 : decode c_Q_appendComes 38 = .ok (.aload_n 2, 1) := by decide +kernel
theorem d_Q_appendComes_39 : decode c_Q_appendComes 39 = .ok (.getfield 213, 3) := by decide +kernel
theorem d_Q_appendComes_42 : decode c_Q_appendComes 42 = .ok (.aload_n 2, 1) := by decide +kernel
theorem d_Q_appendComes_43 : decode c_Q_appendComes 43 = .ok (.getfield 261, 3) := by decide +kernel
theorem d_Q_appendComes_46 : decode c_Q_appendComes 46 = .ok (.invokevirtual 351, 3) := by decide +kernel
theorem d_Q_appendComes_49 : decode c_Q_appendComes 49 = .ok (.ifCond .ne (40), 3) := by decide +kernel
theorem d_Q_appendComes_52 : decode c_Q_appendComes 52 = .ok (.iconst 0, 1) := by decide +kernel
theorem d_Q_appendComes_53 : decode c_Q_appendComes 53 = .ok (.aload_n 1, 1) := by decide +kernel
theorem d_Q_appendComes_54 : decode c_Q_appendComes 54 = .ok (.getfield 85, 3) := by decide +kernel
theorem d_Q_appendComes_57 : decode c_Q_appendComes 57 = .ok (.invokevirtual 126, 3) := by decide +kernel
theorem d_Q_appendComes_60 : decode c_Q_appendComes 60 = .ok (.aload_n 2, 1) := by decide +kernel
theorem d_Q_appendComes_61 : decode c_Q_appendComes 61 = .ok (.getfield 213, 3) := by decide +kernel
theorem d_Q_appendComes_64 : decode c_Q_appendComes 64 = .ok (.iconst 1, 1) := by decide +kernel
theorem d_Q_appendComes_65 : decode c_Q_appendComes 65 = .ok (.isub, 1) := by decide +kernel
theorem d_Q_appendComes_66 : decode c_Q_appendComes 66 = .ok (.invokestatic 354, 3) := by decide +kernel
theorem d_Q_appendComes_69 : decode c_Q_appendComes 69 = .ok (.invokestatic 360, 3) := by decide +kernel
theorem d_Q_appendComes_72 : decode c_Q_appendComes 72 = .ok (.istore_n 3, 1) := by decide +kernel
theorem d_Q_appendComes_73 : decode c_Q_appendComes 73 = .ok (.aload_n 0, 1) := by decide +kernel
theorem d_Q_appendComes_74 : decode c_Q_appendComes 74 = .ok (.aload_n 1, 1) := by decide +kernel
theorem d_Q_appendComes_75 : decode c_Q_appendComes 75 = .ok (.aload_n 2, 1) := by decide +kernel
theorem d_Q_appendComes_76 : decode c_Q_appendComes 76 = .ok (.getfield 209, 3) := by decide +kernel
theorem d_Q_appendComes_79 : decode c_Q_appendComes 79 = .ok (.iconst 0, 1) := by decide +kernel
theorem d_Q_appendComes_80 : decode c_Q_appendComes 80 = .ok (.iload_n 3, 1) := by decide +kernel
theorem d_Q_appendComes_81 : decode c_Q_appendComes 81 = .ok (.aload_n 2, 1) := by decide +kernel
theorem d_Q_appendComes_82 : decode c_Q_appendComes 82 = .ok (.getfield 219, 3) := by decide +kernel
theorem d_Q_appendComes_85 : decode c_Q_appendComes 85 = .ok (.invokevirtual 347, 3) := by decide +kernel
theorem d_Q_appendComes_88 : decode c_Q_appendComes 88 = .ok (.return_, 1) := by decide +kernel
theorem d_Q_appendComes_89 : decode c_Q_appendComes 89 = .ok (.aload_n 1, 1) := by decide +kernel
theorem d_Q_appendComes_90 : decode c_Q_appendComes 90 = .ok (.getfield 85, 3) := by decide +kernel
theorem d_Q_appendComes_93 : decode c_Q_appendComes 93 = .ok (.aload_n 2, 1) := by decide +kernel
theorem d_Q_appendComes_94 : decode c_Q_appendComes 94 = .ok (.invokevirtual 363, 3) := by decide +kernel
theorem d_Q_appendComes_97 : decode c_Q_appendComes 97 = .ok (.istore_n 3, 1) := by decide +kernel
theorem d_Q_appendComes_98 : decode c_Q_appendComes 98 = .ok (.aload_n 1, 1) := by decide +kernel
theorem d_Q_appendComes_99 : decode c_Q_appendComes 99 = .ok (.aload_n 1, 1) := by decide +kernel
theorem d_Q_appendComes_100 : decode c_Q_appendComes 100 = .ok (.getfield 133, 3) := by decide +kernel
theorem d_Q_appendComes_103 : decode c_Q_appendComes 103 = .ok (.aload_n 2, 1) := by decide +kernel
theorem d_Q_appendComes_104 : decode c_Q_appendComes 104 = .ok (.getfield 294, 3) := by decide +kernel
theorem d_Q_appendComes_107 : decode c_Q_appendComes 107 = .ok (.iload_n 3, 1) := by decide +kernel
theorem d_Q_appendComes_108 : decode c_Q_appendComes 108 = .ok (.invokestatic 354, 3) := by decide +kernel
theorem d_Q_appendComes_111 : decode c_Q_appendComes 111 = .ok (.invokestatic 360, 3) := by decide +kernel
theorem d_Q_appendComes_114 : decode c_Q_appendComes 114 = .ok (.putfield 133, 3) := by decide +kernel
theorem d_Q_appendComes_117 : decode c_Q_appendComes 117 = .ok (.aload_n 0, 1) := by decide +kernel
theorem d_Q_appendComes_118 : decode c_Q_appendComes 118 = .ok (.aload_n 1, 1) := by decide +kernel
theorem d_Q_appendComes_119 : decode c_Q_appendComes 119 = .ok (.aload_n 2, 1) := by decide +kernel
theorem d_Q_appendComes_120 : decode c_Q_appendComes 120 = .ok (.getfield 209, 3) := by decide +kernel
theorem d_Q_appendComes_123 : decode c_Q_appendComes 123 = .ok (.iconst 1, 1) := by decide +kernel
theorem d_Q_appendComes_124 : decode c_Q_appendComes 124 = .ok (.iload_n 3, 1) := by decide +kernel
theorem d_Q_appendComes_125 : decode c_Q_appendComes 125 = .ok (.aload_n 2, 1) := by decide +kernel
theorem d_Q_appendComes_126 : decode c_Q_appendComes 126 = .ok (.getfield 219, 3) := by decide +kernel
theorem d_Q_appendComes_129 : decode c_Q_appendComes 129 = .ok (.invokevirtual 347, 3) := by decide +kernel
theorem d_Q_appendComes_132 : decode c_Q_appendComes 132 = .ok (.return_, 1) := by decide +kernel
theorem d_Q_sendResult_0 : decode c_Q_sendResult 0 = .ok (.aload_n 0, 1) := by decide +kernel
theorem d_Q_sendResult_1 : decode c_Q_sendResult 1 = .ok (.getfield 35, 3) := by decide +kernel
theorem d_Q_sendResult_4 : decode c_Q_sendResult 4 = .ok (.iconst 5, 1) := by decide +kernel
theorem d_Q_sendResult_5 : decode c_Q_sendResult 5 = .ok (.aload_n 1, 1) := by decide +kernel
theorem d_Q_sendResult_6 : decode c_Q_sendResult 6 = .ok (.getfield 55, 3) := by decide +kernel
theorem d_Q_sendResult_9 : decode c_Q_sendResult 9 = .ok (.iload_n 2, 1) := by decide +kernel
theorem d_Q_sendResult_10 : decode c_Q_sendResult 10 = .ok (.aload_n 1, 1) := by decide +kernel
theorem d_Q_sendResult_11 : decode c_Q_sendResult 11 = .ok (.getfield 61, 3) := by decide +kernel
theorem d_Q_sendResult_14 : decode c_Q_sendResult 14 = .ok (.invokevirtual 254, 3) := by decide +kernel
theorem d_Q_sendResult_17 : decode c_Q_sendResult 17 = .ok (.astore 6, 2) := by decide +kernel
theorem d_Q_sendResult_19 : decode c_Q_sendResult 19 = .ok (.aload 6, 2) := by decide +kernel
theorem d_Q_sendResult_21 : decode c_Q_sendResult 21 = .ok (.iload_n 3, 1) := by decide +kernel
theorem d_Q_sendResult_22 : decode c_Q_sendResult 22 = .ok (.putfield 217, 3) := by decide +kernel
theorem d_Q_sendResult_25 : decode c_Q_sendResult 25 = .ok (.aload 6, 2) := by decide +kernel
theorem d_Q_sendResult_27 : decode c_Q_sendResult 27 = .ok (.iload 4, 2) := by decide +kernel
theorem d_Q_sendResult_29 : decode c_Q_sendResult 29 = .ok (.putfield 213, 3) := by decide +kernel
theorem d_Q_sendResult_32 : decode c_Q_sendResult 32 = .ok (.aload 6, 2) := by decide +kernel
theorem d_Q_sendResult_34 : decode c_Q_sendResult 34 = .ok (.iload 5, 2) := by decide +kernel
theorem d_Q_sendResult_36 : decode c_Q_sendResult 36 = .ok (.putfield 219, 3) := by decide +kernel
theorem d_Q_sendResult_39 : decode c_Q_sendResult 39 = .ok (.return_, 1) := by decide +kernel
theorem d_Q_resultComes_0 : decode c_Q_resultComes 0 = .ok (.aload_n 1, 1) := by decide +kernel
theorem d_Q_resultComes_1 : decode c_Q_resultComes 1 = .ok (.getfield 51, 3) := by decide +kernel
theorem d_Q_resultComes_4 : decode c_Q_resultComes 4 = .ok (.iconst 3, 1) := by decide +kernel
theorem d_Q_resultComes_5 : decode c_Q_resultComes 5 = .ok (.if_icmp .ne (14), 3) := by decide +kernel
theorem d_Q_resultComes_8 : decode c_Q_resultComes 8 = .ok (.aload_n 2, 1) := by decide +kernel
theorem d_Q_resultComes_9 : decode c_Q_resultComes 9 = .ok (.getfield 212, 3) := by decide +kernel
theorem d_Q_resultComes_12 : decode c_Q_resultComes 12 = .ok (.aload_n 1, 1) := by decide +kernel
theorem d_Q_resultComes_13 : decode c_Q_resultComes 13 = .ok (.getfield 61, 3) := by decide +kernel
theorem d_Q_resultComes_16 : decode c_Q_resultComes 16 = .ok (.if_icmp .eq (4), 3) := by decide +kernel
theorem d_Q_resultComes_19 : decode c_Q_resultComes 19 = .ok (.return_, 1) := by decide +kernel
theorem d_Q_resultComes_20 : decode c_Q_resultComes 20 = .ok (.aload_n 2, 1) := by decide +kernel
theorem d_Q_resultComes_21 : decode c_Q_resultComes 21 = .ok (.getfield 209, 3) := by decide +kernel
theorem d_Q_resultComes_24 : decode c_Q_resultComes 24 = .ok (.istore_n 3, 1) := by decide +kernel
theorem d_Q_resultComes_25 : decode c_Q_resultComes 25 = .ok (.aload_n 1, 1) := by decide +kernel
theorem d_Q_resultComes_26 : decode c_Q_resultComes 26 = .ok (.getfield 273, 3) := by decide +kernel
theorem d_Q_resultComes_29 : decode c_Q_resultComes 29 = .ok (.iload_n 3, 1) := by decide +kernel
theorem d_Q_resultComes_30 : decode c_Q_resultComes 30 = .ok (.aload_n 1, 1) := by decide +kernel
theorem d_Q_resultComes_31 : decode c_Q_resultComes 31 = .ok (.getfield 273, 3) := by decide +kernel
theorem d_Q_resultComes_34 : decode c_Q_resultComes 34 = .ok (.iload_n 3, 1) := by decide +kernel
theorem d_Q_resultComes_35 : decode c_Q_resultComes 35 = .ok (.iaload, 1) := by decide +kernel
theorem d_Q_resultComes_36 : decode c_Q_resultComes 36 = .ok (.aload_n 2, 1) := by decide +kernel
theorem d_Q_resultComes_37 : decode c_Q_resultComes 37 = .ok (.getfield 219, 3) := by decide +kernel
theorem d_Q_resultComes_40 : decode c_Q_resultComes 40 = .ok (.invokestatic 360, 3) := by decide +kernel
theorem d_Q_resultComes_43 : decode c_Q_resultComes 43 = .ok (.iastore, 1) := by decide +kernel
theorem d_Q_resultComes_44 : decode c_Q_resultComes 44 = .ok (.aload_n 2, 1) := by decide +kernel
theorem d_Q_resultComes_45 : decode c_Q_resultComes 45 = .ok (.getfield 217, 3) := by decide +kernel
theorem d_Q_resultComes_48 : decode c_Q_resultComes 48 = .ok (.ifCond .eq (44), 3) := by decide +kernel
theorem d_Q_resultComes_51 : decode c_Q_resultComes 51 = .ok (.aload_n 1, 1) := by decide +kernel
theorem d_Q_resultComes_52 : decode c_Q_resultComes 52 = .ok (.getfield 270, 3) := by decide +kernel
theorem d_Q_resultComes_55 : decode c_Q_resultComes 55 = .ok (.iload_n 3, 1) := by decide +kernel
theorem d_Q_resultComes_56 : decode c_Q_resultComes 56 = .ok (.aload_n 1, 1) := by decide +kernel
theorem d_Q_resultComes_57 : decode c_Q_resultComes 57 = .ok (.getfield 270, 3) := by decide +kernel
theorem d_Q_resultComes_60 : decode c_Q_resultComes 60 = .ok (.iload_n 3, 1) := by decide +kernel
theorem d_Q_resultComes_61 : decode c_Q_resultComes 61 = .ok (.iaload, 1) := by decide +kernel
theorem d_Q_resultComes_62 : decode c_Q_resultComes 62 = .ok (.aload_n 2, 1) := by decide +kernel
theorem d_Q_resultComes_63 : decode c_Q_resultComes 63 = .ok (.getfield 213, 3) := by decide +kernel
theorem d_Q_resultComes_66 : decode c_Q_resultComes 66 = .ok (.invokestatic 360, 3) := by decide +kernel
theorem d_Q_resultComes_69 : decode c_Q_resultComes 69 = .ok (.iastore, 1) := by decide +kernel
theorem d_Q_resultComes_70 : decode c_Q_resultComes 70 = .ok (.aload_n 1, 1) := by decide +kernel
theorem d_Q_resultComes_71 : decode c_Q_resultComes 71 = .ok (.getfield 267, 3) := by decide +kernel
theorem d_Q_resultComes_74 : decode c_Q_resultComes 74 = .ok (.iload_n 3, 1) := by decide +kernel
theorem d_Q_resultComes_75 : decode c_Q_resultComes 75 = .ok (.aload_n 1, 1) := by decide +kernel
theorem d_Q_resultComes_76 : decode c_Q_resultComes 76 = .ok (.getfield 270, 3) := by decide +kernel
theorem d_Q_resultComes_79 : decode c_Q_resultComes 79 = .ok (.iload_n 3, 1) := by decide +kernel
theorem d_Q_resultComes_80 : decode c_Q_resultComes 80 = .ok (.iaload, 1) := by decide +kernel
theorem d_Q_resultComes_81 : decode c_Q_resultComes 81 = .ok (.iconst 1, 1) := by decide +kernel
theorem d_Q_resultComes_82 : decode c_Q_resultComes 82 = .ok (.iadd, 1) := by decide +kernel
theorem d_Q_resultComes_83 : decode c_Q_resultComes 83 = .ok (.iastore, 1) := by decide +kernel
theorem d_Q_resultComes_84 : decode c_Q_resultComes 84 = .ok (.aload_n 0, 1) := by decide +kernel
theorem d_Q_resultComes_85 : decode c_Q_resultComes 85 = .ok (.aload_n 1, 1) := by decide +kernel
theorem d_Q_resultComes_86 : decode c_Q_resultComes 86 = .ok (.invokevirtual 280, 3) := by decide +kernel
theorem d_Q_resultComes_89 : decode c_Q_resultComes 89 = .ok (.goto (30), 3) := by decide +kernel
theorem d_Q_resultComes_92 : decode c_Q_resultComes 92 = .ok (.aload_n 1, 1) := by decide +kernel
theorem d_Q_resultComes_93 : decode c_Q_resultComes 93 = .ok (.getfield 267, 3) := by decide +kernel
theorem d_Q_resultComes_96 : decode c_Q_resultComes 96 = .ok (.iload_n 3, 1) := by decide +kernel
theorem d_Q_resultComes_97 : decode c_Q_resultComes 97 = .ok (.iconst 1, 1) := by decide +kernel
theorem d_Q_resultComes_98 : decode c_Q_resultComes 98 = .ok (.aload_n 1, 1) := by decide +kernel
theorem d_Q_resultComes_99 : decode c_Q_resultComes 99 = .ok (.getfield 267, 3) := by decide +kernel
theorem d_Q_resultComes_102 : decode c_Q_resultComes 102 = .ok (.iload_n 3, 1) := by decide +kernel
theorem d_Q_resultComes_103 : decode c_Q_resultComes 103 = .ok (.iaload, 1) := by decide +kernel
theorem d_Q_resultComes_104 : decode c_Q_resultComes 104 = .ok (.iconst 1, 1) := by decide +kernel
theorem d_Q_resultComes_105 : decode c_Q_resultComes 105 = .ok (.isub, 1) := by decide +kernel
theorem d_Q_resultComes_106 : decode c_Q_resultComes 106 = .ok (.aload_n 2, 1) := by decide +kernel
theorem d_Q_resultComes_107 : decode c_Q_resultComes 107 = .ok (.getfield 213, 3) := by decide +kernel
theorem d_Q_resultComes_110 : decode c_Q_resultComes 110 = .ok (.iconst 1, 1) := by decide +kernel
theorem d_Q_resultComes_111 : decode c_Q_resultComes 111 = .ok (.iadd, 1) := by decide +kernel
theorem d_Q_resultComes_112 : decode c_Q_resultComes 112 = .ok (.invokestatic 354, 3) := by decide +kernel
theorem d_Q_resultComes_115 : decode c_Q_resultComes 115 = .ok (.invokestatic 360, 3) := by decide +kernel
theorem d_Q_resultComes_118 : decode c_Q_resultComes 118 = .ok (.iastore, 1) := by decide +kernel
theorem d_Q_resultComes_119 : decode c_Q_resultComes 119 = .ok (.aload_n 2, 1) := by decide +kernel
theorem d_Q_resultComes_120 : decode c_Q_resultComes 120 = .ok (.getfield 217, 3) := by decide +kernel
theorem d_Q_resultComes_123 : decode c_Q_resultComes 123 = .ok (.ifCond .eq (19), 3) := by decide +kernel
theorem d_Q_resultComes_126 : decode c_Q_resultComes 126 = .ok (.aload_n 1, 1) := by decide +kernel
theorem d_Q_resultComes_127 : decode c_Q_resultComes 127 = .ok (.getfield 267, 3) := by decide +kernel
theorem d_Q_resultComes_130 : decode c_Q_resultComes 130 = .ok (.iload_n 3, 1) := by decide +kernel
theorem d_Q_resultComes_131 : decode c_Q_resultComes 131 = .ok (.iaload, 1) := by decide +kernel
theorem d_Q_resultComes_132 : decode c_Q_resultComes 132 = .ok (.aload_n 1, 1) := by decide +kernel
theorem d_Q_resultComes_133 : decode c_Q_resultComes 133 = .ok (.getfield 85, 3) := by decide +kernel
theorem d_Q_resultComes_136 : decode c_Q_resultComes 136 = .ok (.invokevirtual 126, 3) := by decide +kernel
theorem d_Q_resultComes_139 : decode c_Q_resultComes 139 = .ok (.if_icmp .gt (7), 3) := by decide +kernel
theorem d_Q_resultComes_142 : decode c_Q_resultComes 142 = .ok (.iconst 1, 1) := by decide +kernel
theorem d_Q_resultComes_143 : decode c_Q_resultComes 143 = .ok (.goto (4), 3) := by decide +kernel
theorem d_Q_resultComes_146 : decode c_Q_resultComes 146 = .ok (.iconst 0, 1) := by decide +kernel
theorem d_Q_resultComes_147 : decode c_Q_resultComes 147 = .ok (.istore 4, 2) := by decide +kernel
theorem d_Q_resultComes_149 : decode c_Q_resultComes 149 = .ok (.aload_n 1, 1) := by decide +kernel
theorem d_Q_resultComes_150 : decode c_Q_resultComes 150 = .ok (.getfield 51, 3) := by decide +kernel
theorem d_Q_resultComes_153 : decode c_Q_resultComes 153 = .ok (.iconst 3, 1) := by decide +kernel
theorem d_Q_resultComes_154 : decode c_Q_resultComes 154 = .ok (.if_icmp .ne (28), 3) := by decide +kernel
theorem d_Q_resultComes_157 : decode c_Q_resultComes 157 = .ok (.iload 4, 2) := by decide +kernel
theorem d_Q_resultComes_159 : decode c_Q_resultComes 159 = .ok (.ifCond .eq (23), 3) := by decide +kernel
theorem d_Q_resultComes_162 : decode c_Q_resultComes 162 = .ok (.aload_n 1, 1) := by decide +kernel
theorem d_Q_resultComes_163 : decode c_Q_resultComes 163 = .ok (.getfield 85, 3) := by decide +kernel
theorem d_Q_resultComes_166 : decode c_Q_resultComes 166 = .ok (.invokevirtual 115, 3) := by decide +kernel
theorem d_Q_resultComes_169 : decode c_Q_resultComes 169 = .ok (.iload_n 3, 1) := by decide +kernel
theorem d_Q_resultComes_170 : decode c_Q_resultComes 170 = .ok (.invokestatic 250, 3) := by decide +kernel
theorem d_Q_resultComes_173 : decode c_Q_resultComes 173 = .ok (.ifCond .eq (9), 3) := by decide +kernel
theorem d_Q_resultComes_176 : decode c_Q_resultComes 176 = .ok (.aload_n 0, 1) := by decide +kernel
theorem d_Q_resultComes_177 : decode c_Q_resultComes 177 = .ok (.aload_n 1, 1) := by decide +kernel
theorem d_Q_resultComes_178 : decode c_Q_resultComes 178 = .ok (.iload_n 3, 1) := by decide +kernel
theorem d_Q_resultComes_179 : decode c_Q_resultComes 179 = .ok (.invokevirtual 289, 3) := by decide +kernel
theorem d_Q_resultComes_182 : decode c_Q_resultComes 182 = .ok (.aload_n 0, 1) := by decide +kernel
theorem d_Q_resultComes_183 : decode c_Q_resultComes 183 = .ok (.aload_n 1, 1) := by decide +kernel
theorem d_Q_resultComes_184 : decode c_Q_resultComes 184 = .ok (.invokevirtual 154, 3) := by decide +kernel
theorem d_Q_resultComes_187 : decode c_Q_resultComes 187 = .ok (.return_, 1) := by decide +kernel
theorem d_Q_lookAtReads_0 : decode c_Q_lookAtReads 0 = .ok (.aload_n 1, 1) := by decide +kernel
theorem d_Q_lookAtReads_1 : decode c_Q_lookAtReads 1 = .ok (.getfield 85, 3) := by decide +kernel
theorem d_Q_lookAtReads_4 : decode c_Q_lookAtReads 4 = .ok (.invokevirtual 115, 3) := by decide +kernel
theorem d_Q_lookAtReads_7 : decode c_Q_lookAtReads 7 = .ok (.istore_n 2, 1) := by decide +kernel
theorem d_Q_lookAtReads_8 : decode c_Q_lookAtReads 8 = .ok (.iconst 0, 1) := by decide +kernel
theorem d_Q_lookAtReads_9 : decode c_Q_lookAtReads 9 = .ok (.istore_n 3, 1) := by decide +kernel
theorem d_Q_lookAtReads_10 : decode c_Q_lookAtReads 10 = .ok (.iload_n 3, 1) := by decide +kernel
theorem d_Q_lookAtReads_11 : decode c_Q_lookAtReads 11 = .ok (.aload_n 0, 1) := by decide +kernel
theorem d_Q_lookAtReads_12 : decode c_Q_lookAtReads 12 = .ok (.getfield 18, 3) := by decide +kernel
theorem d_Q_lookAtReads_15 : decode c_Q_lookAtReads 15 = .ok (.getfield 144, 3) := by decide +kernel
theorem d_Q_lookAtReads_18 : decode c_Q_lookAtReads 18 = .ok (.if_icmp .ge (76), 3) := by decide +kernel
theorem d_Q_lookAtReads_21 : decode c_Q_lookAtReads 21 = .ok (.aload_n 0, 1) := by decide +kernel
theorem d_Q_lookAtReads_22 : decode c_Q_lookAtReads 22 = .ok (.getfield 18, 3) := by decide +kernel
theorem d_Q_lookAtReads_25 : decode c_Q_lookAtReads 25 = .ok (.iload_n 3, 1) := by decide +kernel
theorem d_Q_lookAtReads_26 : decode c_Q_lookAtReads 26 = .ok (.aload_n 1, 1) := by decide +kernel
theorem d_Q_lookAtReads_27 : decode c_Q_lookAtReads 27 = .ok (.getfield 55, 3) := by decide +kernel
theorem d_Q_lookAtReads_30 : decode c_Q_lookAtReads 30 = .ok (.invokevirtual 303, 3) := by decide +kernel
theorem d_Q_lookAtReads_33 : decode c_Q_lookAtReads 33 = .ok (.ifCond .eq (55), 3) := by decide +kernel
theorem d_Q_lookAtReads_36 : decode c_Q_lookAtReads 36 = .ok (.aload_n 1, 1) := by decide +kernel
theorem d_Q_lookAtReads_37 : decode c_Q_lookAtReads 37 = .ok (.aload_n 0, 1) := by decide +kernel
theorem d_Q_lookAtReads_38 : decode c_Q_lookAtReads 38 = .ok (.getfield 18, 3) := by decide +kernel
theorem d_Q_lookAtReads_41 : decode c_Q_lookAtReads 41 = .ok (.getfield 306, 3) := by decide +kernel
theorem d_Q_lookAtReads_44 : decode c_Q_lookAtReads 44 = .ok (.iload_n 3, 1) := by decide +kernel
theorem d_Q_lookAtReads_45 : decode c_Q_lookAtReads 45 = .ok (.iaload, 1) := by decide +kernel
theorem d_Q_lookAtReads_46 : decode c_Q_lookAtReads 46 = .ok (.invokevirtual 309, 3) := by decide +kernel
theorem d_Q_lookAtReads_49 : decode c_Q_lookAtReads 49 = .ok (.iload_n 2, 1) := by decide +kernel
theorem d_Q_lookAtReads_50 : decode c_Q_lookAtReads 50 = .ok (.invokestatic 264, 3) := by decide +kernel
theorem d_Q_lookAtReads_53 : decode c_Q_lookAtReads 53 = .ok (.ifCond .eq (35), 3) := by decide +kernel
theorem d_Q_lookAtReads_56 : decode c_Q_lookAtReads 56 = .ok (.aload_n 0, 1) := by decide +kernel
theorem d_Q_lookAtReads_57 : decode c_Q_lookAtReads 57 = .ok (.getfield 18, 3) := by decide +kernel
theorem d_Q_lookAtReads_60 : decode c_Q_lookAtReads 60 = .ok (.getfield 160, 3) := by decide +kernel
theorem d_Q_lookAtReads_63 : decode c_Q_lookAtReads 63 = .ok (.iload_n 3, 1) := by decide +kernel
theorem d_Q_lookAtReads_64 : decode c_Q_lookAtReads 64 = .ok (.iconst 1, 1) := by decide +kernel
theorem d_Q_lookAtReads_65 : decode c_Q_lookAtReads 65 = .ok (.iastore, 1) := by decide +kernel
theorem d_Q_lookAtReads_66 : decode c_Q_lookAtReads 66 = .ok (.aload_n 0, 1) := by decide +kernel
theorem d_Q_lookAtReads_67 : decode c_Q_lookAtReads 67 = .ok (.getfield 18, 3) := by decide +kernel
theorem d_Q_lookAtReads_70 : decode c_Q_lookAtReads 70 = .ok (.getfield 164, 3) := by decide +kernel
theorem d_Q_lookAtReads_73 : decode c_Q_lookAtReads 73 = .ok (.iload_n 3, 1) := by decide +kernel
theorem d_Q_lookAtReads_74 : decode c_Q_lookAtReads 74 = .ok (.aload_n 1, 1) := by decide +kernel
theorem d_Q_lookAtReads_75 : decode c_Q_lookAtReads 75 = .ok (.aload_n 0, 1) := by decide +kernel
theorem d_Q_lookAtReads_76 : decode c_Q_lookAtReads 76 = .ok (.getfield 18, 3) := by decide +kernel
theorem d_Q_lookAtReads_79 : decode c_Q_lookAtReads 79 = .ok (.getfield 312, 3) := by decide +kernel
theorem d_Q_lookAtReads_82 : decode c_Q_lookAtReads 82 = .ok (.iload_n 3, 1) := by decide +kernel
theorem d_Q_lookAtReads_83 : decode c_Q_lookAtReads 83 = .ok (.iaload, 1) := by decide +kernel
theorem d_Q_lookAtReads_84 : decode c_Q_lookAtReads 84 = .ok (.invokevirtual 240, 3) := by decide +kernel
theorem d_Q_lookAtReads_87 : decode c_Q_lookAtReads 87 = .ok (.iastore, 1) := by decide +kernel
theorem d_Q_lookAtReads_88 : decode c_Q_lookAtReads 88 = .ok (.iinc 3 (1), 3) := by decide +kernel
theorem d_Q_lookAtReads_91 : decode c_Q_lookAtReads 91 = .ok (.goto (-81), 3) := by decide +kernel
theorem d_Q_lookAtReads_94 : decode c_Q_lookAtReads 94 = .ok (.return_, 1) := by decide +kernel
theorem d_Q_installComes_0 : decode c_Q_installComes 0 = .ok (.aload_n 2, 1) := by decide +kernel
theorem d_Q_installComes_1 : decode c_Q_installComes 1 = .ok (.getfield 212, 3) := by decide +kernel
theorem d_Q_installComes_4 : decode c_Q_installComes 4 = .ok (.aload_n 1, 1) := by decide +kernel
theorem d_Q_installComes_5 : decode c_Q_installComes 5 = .ok (.getfield 61, 3) := by decide +kernel
theorem d_Q_installComes_8 : decode c_Q_installComes 8 = .ok (.if_icmp .ge (16), 3) := by decide +kernel
theorem d_Q_installComes_11 : decode c_Q_installComes 11 = .ok (.aload_n 0, 1) := by decide +kernel
theorem d_Q_installComes_12 : decode c_Q_installComes 12 = .ok (.aload_n 1, 1) := by decide +kernel
theorem d_Q_installComes_13 : decode c_Q_installComes 13 = .ok (.aload_n 2, 1) := by decide +kernel
theorem d_Q_installComes_14 : decode c_Q_installComes 14 = .ok (.getfield 209, 3) := by decide +kernel
theorem d_Q_installComes_17 : decode c_Q_installComes 17 = .ok (.iconst 0, 1) := by decide +kernel
theorem d_Q_installComes_18 : decode c_Q_installComes 18 = .ok (.iconst 0, 1) := by decide +kernel
theorem d_Q_installComes_19 : decode c_Q_installComes 19 = .ok (.iconst 0, 1) := by decide +kernel
theorem d_Q_installComes_20 : decode c_Q_installComes 20 = .ok (.invokevirtual 347, 3) := by decide +kernel
theorem d_Q_installComes_23 : decode c_Q_installComes 23 = .ok (.return_, 1) := by decide +kernel
theorem d_Q_installComes_24 : decode c_Q_installComes 24 = .ok (.aload_n 0, 1) := by decide +kernel
theorem d_Q_installComes_25 : decode c_Q_installComes 25 = .ok (.aload_n 1, 1) := by decide +kernel
theorem d_Q_installComes_26 : decode c_Q_installComes 26 = .ok (.invokevirtual 184, 3) := by decide +kernel
theorem d_Q_installComes_29 : decode c_Q_installComes 29 = .ok (.aload_n 1, 1) := by decide +kernel
theorem d_Q_installComes_30 : decode c_Q_installComes 30 = .ok (.iconst 1, 1) := by decide +kernel
theorem d_Q_installComes_31 : decode c_Q_installComes 31 = .ok (.putfield 47, 3) := by decide +kernel
theorem d_Q_installComes_34 : decode c_Q_installComes 34 = .ok (.aload_n 2, 1) := by decide +kernel
theorem d_Q_installComes_35 : decode c_Q_installComes 35 = .ok (.getfield 213, 3) := by decide +kernel
theorem d_Q_installComes_38 : decode c_Q_installComes 38 = .ok (.aload_n 1, 1) := by decide +kernel
theorem d_Q_installComes_39 : decode c_Q_installComes 39 = .ok (.getfield 133, 3) := by decide +kernel
theorem d_Q_installComes_42 : decode c_Q_installComes 42 = .ok (.if_icmp .le (22), 3) := by decide +kernel
theorem d_Q_installComes_45 : decode c_Q_installComes 45 = .ok (.aload_n 1, 1) := by decide +kernel
theorem d_Q_installComes_46 : decode c_Q_installComes 46 = .ok (.getfield 85, 3) := by decide +kernel
theorem d_Q_installComes_49 : decode c_Q_installComes 49 = .ok (.aload_n 2, 1) := by decide +kernel
theorem d_Q_installComes_50 : decode c_Q_installComes 50 = .ok (.getfield 293, 3) := by decide +kernel
theorem d_Q_installComes_53 : decode c_Q_installComes 53 = .ok (.invokevirtual 181, 3) := by decide +kernel
theorem d_Q_installComes_56 : decode c_Q_installComes 56 = .ok (.aload_n 1, 1) := by decide +kernel
theorem d_Q_installComes_57 : decode c_Q_installComes 57 = .ok (.aload_n 2, 1) := by decide +kernel
theorem d_Q_installComes_58 : decode c_Q_installComes 58 = .ok (.getfield 213, 3) := by decide +kernel
theorem d_Q_installComes_61 : decode c_Q_installComes 61 = .ok (.putfield 133, 3) := by decide +kernel
theorem d_Q_installComes_64 : decode c_Q_installComes 64 = .ok (.aload_n 0, 1) := by decide +kernel
theorem d_Q_installComes_65 : decode c_Q_installComes 65 = .ok (.aload_n 1, 1) := by decide +kernel
theorem d_Q_installComes_66 : decode c_Q_installComes 66 = .ok (.aload_n 2, 1) := by decide +kernel
theorem d_Q_installComes_67 : decode c_Q_installComes 67 = .ok (.getfield 209, 3) := by decide +kernel
theorem d_Q_installComes_70 : decode c_Q_installComes 70 = .ok (.iconst 1, 1) := by decide +kernel
theorem d_Q_installComes_71 : decode c_Q_installComes 71 = .ok (.aload_n 2, 1) := by decide +kernel
theorem d_Q_installComes_72 : decode c_Q_installComes 72 = .ok (.getfield 213, 3) := by decide +kernel
theorem d_Q_installComes_75 : decode c_Q_installComes 75 = .ok (.aload_n 2, 1) := by decide +kernel
theorem d_Q_installComes_76 : decode c_Q_installComes 76 = .ok (.getfield 219, 3) := by decide +kernel
theorem d_Q_installComes_79 : decode c_Q_installComes 79 = .ok (.invokevirtual 347, 3) := by decide +kernel
theorem d_Q_installComes_82 : decode c_Q_installComes 82 = .ok (.return_, 1) := by decide +kernel
theorem d_Q_lose_0 : decode c_Q_lose 0 = .ok (.aload_n 0, 1) := by decide +kernel
theorem d_Q_lose_1 : decode c_Q_lose 1 = .ok (.getfield 35, 3) := by decide +kernel
theorem d_Q_lose_4 : decode c_Q_lose 4 = .ok (.iload_n 1, 1) := by decide +kernel
theorem d_Q_lose_5 : decode c_Q_lose 5 = .ok (.invokevirtual 187, 3) := by decide +kernel
theorem d_Q_lose_8 : decode c_Q_lose 8 = .ok (.ifCond .ne (5), 3) := by decide +kernel
theorem d_Q_lose_11 : decode c_Q_lose 11 = .ok (.iconst 0, 1) := by decide +kernel
theorem d_Q_lose_12 : decode c_Q_lose 12 = .ok (.ireturn, 1) := by decide +kernel
theorem d_Q_lose_13 : decode c_Q_lose 13 = .ok (.aload_n 0, 1) := by decide +kernel
theorem d_Q_lose_14 : decode c_Q_lose 14 = .ok (.getfield 35, 3) := by decide +kernel
theorem d_Q_lose_17 : decode c_Q_lose 17 = .ok (.iload_n 1, 1) := by decide +kernel
theorem d_Q_lose_18 : decode c_Q_lose 18 = .ok (.invokevirtual 188, 3) := by decide +kernel
theorem d_Q_lose_21 : decode c_Q_lose 21 = .ok (.pop, 1) := by decide +kernel
theorem d_Q_lose_22 : decode c_Q_lose 22 = .ok (.iconst 1, 1) := by decide +kernel
theorem d_Q_lose_23 : decode c_Q_lose 23 = .ok (.ireturn, 1) := by decide +kernel
theorem d_Q_waiting_0 : decode c_Q_waiting 0 = .ok (.aload_n 0, 1) := by decide +kernel
theorem d_Q_waiting_1 : decode c_Q_waiting 1 = .ok (.getfield 35, 3) := by decide +kernel
theorem d_Q_waiting_4 : decode c_Q_waiting 4 = .ok (.getfield 204, 3) := by decide +kernel
theorem d_Q_waiting_7 : decode c_Q_waiting 7 = .ok (.ireturn, 1) := by decide +kernel
theorem d_Q_message_0 : decode c_Q_message 0 = .ok (.aload_n 0, 1) := by decide +kernel
theorem d_Q_message_1 : decode c_Q_message 1 = .ok (.getfield 35, 3) := by decide +kernel
theorem d_Q_message_4 : decode c_Q_message 4 = .ok (.iload_n 1, 1) := by decide +kernel
theorem d_Q_message_5 : decode c_Q_message 5 = .ok (.invokevirtual 187, 3) := by decide +kernel
theorem d_Q_message_8 : decode c_Q_message 8 = .ok (.ifCond .ne (5), 3) := by decide +kernel
theorem d_Q_message_11 : decode c_Q_message 11 = .ok (.iconst (-1), 1) := by decide +kernel
theorem d_Q_message_12 : decode c_Q_message 12 = .ok (.ireturn, 1) := by decide +kernel
theorem d_Q_message_13 : decode c_Q_message 13 = .ok (.aload_n 0, 1) := by decide +kernel
theorem d_Q_message_14 : decode c_Q_message 14 = .ok (.getfield 35, 3) := by decide +kernel
theorem d_Q_message_17 : decode c_Q_message 17 = .ok (.getfield 205, 3) := by decide +kernel
theorem d_Q_message_20 : decode c_Q_message 20 = .ok (.iload_n 1, 1) := by decide +kernel
theorem d_Q_message_21 : decode c_Q_message 21 = .ok (.aaload, 1) := by decide +kernel
theorem d_Q_message_22 : decode c_Q_message 22 = .ok (.astore_n 3, 1) := by decide +kernel
theorem d_Q_message_23 : decode c_Q_message 23 = .ok (.iload_n 2, 1) := by decide +kernel
theorem d_Q_message_24 : decode c_Q_message 24 = .ok (.tableswitch (102) (0) (6) #[44, 49, 54, 59, 64, 69, 97], 44) := by decide +kernel
theorem d_Q_message_68 : decode c_Q_message 68 = .ok (.aload_n 3, 1) := by decide +kernel
theorem d_Q_message_69 : decode c_Q_message 69 = .ok (.getfield 201, 3) := by decide +kernel
theorem d_Q_message_72 : decode c_Q_message 72 = .ok (.ireturn, 1) := by decide +kernel
theorem d_Q_message_73 : decode c_Q_message 73 = .ok (.aload_n 3, 1) := by decide +kernel
theorem d_Q_message_74 : decode c_Q_message 74 = .ok (.getfield 209, 3) := by decide +kernel
theorem d_Q_message_77 : decode c_Q_message 77 = .ok (.ireturn, 1) := by decide +kernel
theorem d_Q_message_78 : decode c_Q_message 78 = .ok (.aload_n 3, 1) := by decide +kernel
theorem d_Q_message_79 : decode c_Q_message 79 = .ok (.getfield 192, 3) := by decide +kernel
theorem d_Q_message_82 : decode c_Q_message 82 = .ok (.ireturn, 1) := by decide +kernel
theorem d_Q_message_83 : decode c_Q_message 83 = .ok (.aload_n 3, 1) := by decide +kernel
theorem d_Q_message_84 : decode c_Q_message 84 = .ok (.getfield 212, 3) := by decide +kernel
theorem d_Q_message_87 : decode c_Q_message 87 = .ok (.ireturn, 1) := by decide +kernel
theorem d_Q_message_88 : decode c_Q_message 88 = .ok (.aload_n 3, 1) := by decide +kernel
theorem d_Q_message_89 : decode c_Q_message 89 = .ok (.getfield 213, 3) := by decide +kernel
theorem d_Q_message_92 : decode c_Q_message 92 = .ok (.ireturn, 1) := by decide +kernel
theorem d_Q_message_93 : decode c_Q_message 93 = .ok (.aload_n 3, 1) := by decide +kernel
theorem d_Q_message_94 : decode c_Q_message 94 = .ok (.getfield 201, 3) := by decide +kernel
theorem d_Q_message_97 : decode c_Q_message 97 = .ok (.iconst 4, 1) := by decide +kernel
theorem d_Q_message_98 : decode c_Q_message 98 = .ok (.if_icmp .ne (10), 3) := by decide +kernel
theorem d_Q_message_101 : decode c_Q_message 101 = .ok (.aload_n 3, 1) := by decide +kernel
theorem d_Q_message_102 : decode c_Q_message 102 = .ok (.getfield 214, 3) := by decide +kernel
theorem d_Q_message_105 : decode c_Q_message 105 = .ok (.goto (15), 3) := by decide +kernel
theorem d_Q_message_108 : decode c_Q_message 108 = .ok (.aload_n 3, 1) := by decide +kernel
theorem d_Q_message_109 : decode c_Q_message 109 = .ok (.getfield 217, 3) := by decide +kernel
theorem d_Q_message_112 : decode c_Q_message 112 = .ok (.ifCond .eq (7), 3) := by decide +kernel
theorem d_Q_message_115 : decode c_Q_message 115 = .ok (.iconst 1, 1) := by decide +kernel
theorem d_Q_message_116 : decode c_Q_message 116 = .ok (.goto (4), 3) := by decide +kernel
theorem d_Q_message_119 : decode c_Q_message 119 = .ok (.iconst 0, 1) := by decide +kernel
theorem d_Q_message_120 : decode c_Q_message 120 = .ok (.ireturn, 1) := by decide +kernel
theorem d_Q_message_121 : decode c_Q_message 121 = .ok (.aload_n 3, 1) := by decide +kernel
theorem d_Q_message_122 : decode c_Q_message 122 = .ok (.getfield 219, 3) := by decide +kernel
theorem d_Q_message_125 : decode c_Q_message 125 = .ok (.ireturn, 1) := by decide +kernel
theorem d_Q_message_126 : decode c_Q_message 126 = .ok (.iconst (-1), 1) := by decide +kernel
theorem d_Q_message_127 : decode c_Q_message 127 = .ok (.ireturn, 1) := by decide +kernel
theorem d_Q_state_0 : decode c_Q_state 0 = .ok (.iload_n 1, 1) := by decide +kernel
theorem d_Q_state_1 : decode c_Q_state 1 = .ok (.invokestatic 39, 3) := by decide +kernel
theorem d_Q_state_4 : decode c_Q_state 4 = .ok (.ifCond .ne (5), 3) := by decide +kernel
theorem d_Q_state_7 : decode c_Q_state 7 = .ok (.iconst (-1), 1) := by decide +kernel
theorem d_Q_state_8 : decode c_Q_state 8 = .ok (.ireturn, 1) := by decide +kernel
theorem d_Q_state_9 : decode c_Q_state 9 = .ok (.aload_n 0, 1) := by decide +kernel
theorem d_Q_state_10 : decode c_Q_state 10 = .ok (.getfield 11, 3) := by decide +kernel
theorem d_Q_state_13 : decode c_Q_state 13 = .ok (.iload_n 1, 1) := by decide +kernel
theorem d_Q_state_14 : decode c_Q_state 14 = .ok (.aaload, 1) := by decide +kernel
theorem d_Q_state_15 : decode c_Q_state 15 = .ok (.astore_n 3, 1) := by decide +kernel
theorem d_Q_state_16 : decode c_Q_state 16 = .ok (.iload_n 2, 1) := by decide +kernel
theorem d_Q_state_17 : decode c_Q_state 17 = .ok (.tableswitch (124) (0) (8) #[51, 56, 61, 66, 71, 82, 90, 98, 111], 51) := by decide +kernel
theorem d_Q_state_68 : decode c_Q_state 68 = .ok (.aload_n 3, 1) := by decide +kernel
theorem d_Q_state_69 : decode c_Q_state 69 = .ok (.getfield 51, 3) := by decide +kernel
theorem d_Q_state_72 : decode c_Q_state 72 = .ok (.ireturn, 1) := by decide +kernel
theorem d_Q_state_73 : decode c_Q_state 73 = .ok (.aload_n 3, 1) := by decide +kernel
theorem d_Q_state_74 : decode c_Q_state 74 = .ok (.getfield 61, 3) := by decide +kernel
theorem d_Q_state_77 : decode c_Q_state 77 = .ok (.ireturn, 1) := by decide +kernel
theorem d_Q_state_78 : decode c_Q_state 78 = .ok (.aload_n 3, 1) := by decide +kernel
theorem d_Q_state_79 : decode c_Q_state 79 = .ok (.getfield 220, 3) := by decide +kernel
theorem d_Q_state_82 : decode c_Q_state 82 = .ok (.ireturn, 1) := by decide +kernel
theorem d_Q_state_83 : decode c_Q_state 83 = .ok (.aload_n 3, 1) := by decide +kernel
theorem d_Q_state_84 : decode c_Q_state 84 = .ok (.getfield 133, 3) := by decide +kernel
theorem d_Q_state_87 : decode c_Q_state 87 = .ok (.ireturn, 1) := by decide +kernel
theorem d_Q_state_88 : decode c_Q_state 88 = .ok (.aload_n 3, 1) := by decide +kernel
theorem d_Q_state_89 : decode c_Q_state 89 = .ok (.getfield 85, 3) := by decide +kernel
theorem d_Q_state_92 : decode c_Q_state 92 = .ok (.getfield 170, 3) := by decide +kernel
theorem d_Q_state_95 : decode c_Q_state 95 = .ok (.getfield 174, 3) := by decide +kernel
theorem d_Q_state_98 : decode c_Q_state 98 = .ok (.ireturn, 1) := by decide +kernel
theorem d_Q_state_99 : decode c_Q_state 99 = .ok (.aload_n 3, 1) := by decide +kernel
theorem d_Q_state_100 : decode c_Q_state 100 = .ok (.getfield 85, 3) := by decide +kernel
theorem d_Q_state_103 : decode c_Q_state 103 = .ok (.invokevirtual 126, 3) := by decide +kernel
theorem d_Q_state_106 : decode c_Q_state 106 = .ok (.ireturn, 1) := by decide +kernel
theorem d_Q_state_107 : decode c_Q_state 107 = .ok (.aload_n 3, 1) := by decide +kernel
theorem d_Q_state_108 : decode c_Q_state 108 = .ok (.getfield 85, 3) := by decide +kernel
theorem d_Q_state_111 : decode c_Q_state 111 = .ok (.invokevirtual 115, 3) := by decide +kernel
theorem d_Q_state_114 : decode c_Q_state 114 = .ok (.ireturn, 1) := by decide +kernel
theorem d_Q_state_115 : decode c_Q_state 115 = .ok (.aload_n 3, 1) := by decide +kernel
theorem d_Q_state_116 : decode c_Q_state 116 = .ok (.getfield 47, 3) := by decide +kernel
theorem d_Q_state_119 : decode c_Q_state 119 = .ok (.ifCond .eq (7), 3) := by decide +kernel
theorem d_Q_state_122 : decode c_Q_state 122 = .ok (.iconst 1, 1) := by decide +kernel
theorem d_Q_state_123 : decode c_Q_state 123 = .ok (.goto (4), 3) := by decide +kernel
theorem d_Q_state_126 : decode c_Q_state 126 = .ok (.iconst 0, 1) := by decide +kernel
theorem d_Q_state_127 : decode c_Q_state 127 = .ok (.ireturn, 1) := by decide +kernel
theorem d_Q_state_128 : decode c_Q_state 128 = .ok (.aload_n 3, 1) := by decide +kernel
theorem d_Q_state_129 : decode c_Q_state 129 = .ok (.getfield 167, 3) := by decide +kernel
theorem d_Q_state_132 : decode c_Q_state 132 = .ok (.ifCond .eq (7), 3) := by decide +kernel
theorem d_Q_state_135 : decode c_Q_state 135 = .ok (.iconst 1, 1) := by decide +kernel
theorem d_Q_state_136 : decode c_Q_state 136 = .ok (.goto (4), 3) := by decide +kernel
theorem d_Q_state_139 : decode c_Q_state 139 = .ok (.iconst 0, 1) := by decide +kernel
theorem d_Q_state_140 : decode c_Q_state 140 = .ok (.ireturn, 1) := by decide +kernel
theorem d_Q_state_141 : decode c_Q_state 141 = .ok (.iconst (-1), 1) := by decide +kernel
theorem d_Q_state_142 : decode c_Q_state 142 = .ok (.ireturn, 1) := by decide +kernel
theorem d_Q_entry_0 : decode c_Q_entry 0 = .ok (.iload_n 1, 1) := by decide +kernel
theorem d_Q_entry_1 : decode c_Q_entry 1 = .ok (.invokestatic 39, 3) := by decide +kernel
theorem d_Q_entry_4 : decode c_Q_entry 4 = .ok (.ifCond .eq (19), 3) := by decide +kernel
theorem d_Q_entry_7 : decode c_Q_entry 7 = .ok (.aload_n 0, 1) := by decide +kernel
theorem d_Q_entry_8 : decode c_Q_entry 8 = .ok (.getfield 11, 3) := by decide +kernel
theorem d_Q_entry_11 : decode c_Q_entry 11 = .ok (.iload_n 1, 1) := by decide +kernel
theorem d_Q_entry_12 : decode c_Q_entry 12 = .ok (.aaload, 1) := by decide +kernel
theorem d_Q_entry_13 : decode c_Q_entry 13 = .ok (.getfield 85, 3) := by decide +kernel
theorem d_Q_entry_16 : decode c_Q_entry 16 = .ok (.iload_n 2, 1) := by decide +kernel
theorem d_Q_entry_17 : decode c_Q_entry 17 = .ok (.invokevirtual 223, 3) := by decide +kernel
theorem d_Q_entry_20 : decode c_Q_entry 20 = .ok (.goto (4), 3) := by decide +kernel
theorem d_Q_entry_23 : decode c_Q_entry 23 = .ok (.aconst_null, 1) := by decide +kernel
theorem d_Q_entry_24 : decode c_Q_entry 24 = .ok (.astore 4, 2) := by decide +kernel
theorem d_Q_entry_26 : decode c_Q_entry 26 = .ok (.aload 4, 2) := by decide +kernel
theorem d_Q_entry_28 : decode c_Q_entry 28 = .ok (.ifnonnull (5), 3) := by decide +kernel
theorem d_Q_entry_31 : decode c_Q_entry 31 = .ok (.iconst (-1), 1) := by decide +kernel
theorem d_Q_entry_32 : decode c_Q_entry 32 = .ok (.ireturn, 1) := by decide +kernel
theorem d_Q_entry_33 : decode c_Q_entry 33 = .ok (.iload_n 3, 1) := by decide +kernel
theorem d_Q_entry_34 : decode c_Q_entry 34 = .ok (.tableswitch (54) (0) (3) #[30, 36, 42, 48], 30) := by decide +kernel
theorem d_Q_entry_64 : decode c_Q_entry 64 = .ok (.aload 4, 2) := by decide +kernel
theorem d_Q_entry_66 : decode c_Q_entry 66 = .ok (.getfield 227, 3) := by decide +kernel
theorem d_Q_entry_69 : decode c_Q_entry 69 = .ok (.ireturn, 1) := by decide +kernel
theorem d_Q_entry_70 : decode c_Q_entry 70 = .ok (.aload 4, 2) := by decide +kernel
theorem d_Q_entry_72 : decode c_Q_entry 72 = .ok (.getfield 228, 3) := by decide +kernel
theorem d_Q_entry_75 : decode c_Q_entry 75 = .ok (.ireturn, 1) := by decide +kernel
theorem d_Q_entry_76 : decode c_Q_entry 76 = .ok (.aload 4, 2) := by decide +kernel
theorem d_Q_entry_78 : decode c_Q_entry 78 = .ok (.getfield 231, 3) := by decide +kernel
theorem d_Q_entry_81 : decode c_Q_entry 81 = .ok (.ireturn, 1) := by decide +kernel
theorem d_Q_entry_82 : decode c_Q_entry 82 = .ok (.aload 4, 2) := by decide +kernel
theorem d_Q_entry_84 : decode c_Q_entry 84 = .ok (.getfield 234, 3) := by decide +kernel
theorem d_Q_entry_87 : decode c_Q_entry 87 = .ok (.ireturn, 1) := by decide +kernel
theorem d_Q_entry_88 : decode c_Q_entry 88 = .ok (.iconst (-1), 1) := by decide +kernel
theorem d_Q_entry_89 : decode c_Q_entry 89 = .ok (.ireturn, 1) := by decide +kernel
theorem d_Q_stored_0 : decode c_Q_stored 0 = .ok (.iload_n 1, 1) := by decide +kernel
theorem d_Q_stored_1 : decode c_Q_stored 1 = .ok (.invokestatic 39, 3) := by decide +kernel
theorem d_Q_stored_4 : decode c_Q_stored 4 = .ok (.ifCond .eq (10), 3) := by decide +kernel
theorem d_Q_stored_7 : decode c_Q_stored 7 = .ok (.iload_n 2, 1) := by decide +kernel
theorem d_Q_stored_8 : decode c_Q_stored 8 = .ok (.invokestatic 237, 3) := by decide +kernel
theorem d_Q_stored_11 : decode c_Q_stored 11 = .ok (.ifCond .ne (5), 3) := by decide +kernel
theorem d_Q_stored_14 : decode c_Q_stored 14 = .ok (.iconst 0, 1) := by decide +kernel
theorem d_Q_stored_15 : decode c_Q_stored 15 = .ok (.ireturn, 1) := by decide +kernel
theorem d_Q_stored_16 : decode c_Q_stored 16 = .ok (.aload_n 0, 1) := by decide +kernel
theorem d_Q_stored_17 : decode c_Q_stored 17 = .ok (.getfield 11, 3) := by decide +kernel
theorem d_Q_stored_20 : decode c_Q_stored 20 = .ok (.iload_n 1, 1) := by decide +kernel
theorem d_Q_stored_21 : decode c_Q_stored 21 = .ok (.aaload, 1) := by decide +kernel
theorem d_Q_stored_22 : decode c_Q_stored 22 = .ok (.iload_n 2, 1) := by decide +kernel
theorem d_Q_stored_23 : decode c_Q_stored 23 = .ok (.invokevirtual 240, 3) := by decide +kernel
theorem d_Q_stored_26 : decode c_Q_stored 26 = .ok (.ireturn, 1) := by decide +kernel
theorem d_Q_isKey_0 : decode c_Q_isKey 0 = .ok (.iload_n 0, 1) := by decide +kernel
theorem d_Q_isKey_1 : decode c_Q_isKey 1 = .ok (.ifCond .lt (12), 3) := by decide +kernel
theorem d_Q_isKey_4 : decode c_Q_isKey 4 = .ok (.iload_n 0, 1) := by decide +kernel
theorem d_Q_isKey_5 : decode c_Q_isKey 5 = .ok (.iconst 4, 1) := by decide +kernel
theorem d_Q_isKey_6 : decode c_Q_isKey 6 = .ok (.if_icmp .ge (7), 3) := by decide +kernel
theorem d_Q_isKey_9 : decode c_Q_isKey 9 = .ok (.iconst 1, 1) := by decide +kernel
theorem d_Q_isKey_10 : decode c_Q_isKey 10 = .ok (.goto (4), 3) := by decide +kernel
theorem d_Q_isKey_13 : decode c_Q_isKey 13 = .ok (.iconst 0, 1) := by decide +kernel
theorem d_Q_isKey_14 : decode c_Q_isKey 14 = .ok (.ireturn, 1) := by decide +kernel
theorem d_Q_put_0 : decode c_Q_put 0 = .ok (.aload_n 0, 1) := by decide +kernel
theorem d_Q_put_1 : decode c_Q_put 1 = .ok (.iload_n 1, 1) := by decide +kernel
theorem d_Q_put_2 : decode c_Q_put 2 = .ok (.iload_n 2, 1) := by decide +kernel
theorem d_Q_put_3 : decode c_Q_put 3 = .ok (.invokevirtual 81, 3) := by decide +kernel
theorem d_Q_put_6 : decode c_Q_put 6 = .ok (.astore 4, 2) := by decide +kernel
theorem d_Q_put_8 : decode c_Q_put 8 = .ok (.aload 4, 2) := by decide +kernel
theorem d_Q_put_10 : decode c_Q_put 10 = .ok (.getfield 85, 3) := by decide +kernel
theorem d_Q_put_13 : decode c_Q_put 13 = .ok (.getfield 89, 3) := by decide +kernel
theorem d_Q_put_16 : decode c_Q_put 16 = .ok (.bipush (24), 2) := by decide +kernel
theorem d_Q_put_18 : decode c_Q_put 18 = .ok (.if_icmp .lt (13), 3) := by decide +kernel
theorem d_Q_put_21 : decode c_Q_put 21 = .ok (.new 94, 3) := by decide +kernel
theorem d_Q_put_24 : decode c_Q_put 24 = .ok (.dup, 1) := by decide +kernel
theorem d_Q_put_25 : decode c_Q_put 25 = .ok (.ldc 96, 2) := by decide +kernel
theorem d_Q_put_27 : decode c_Q_put 27 = .ok (.invokespecial 98, 3) := by decide +kernel
theorem d_Q_put_30 : decode c_Q_put 30 = .ok (.athrow, 1) := by decide +kernel
theorem d_Q_put_31 : decode c_Q_put 31 = .ok (.aload_n 0, 1) := by decide +kernel
theorem d_Q_put_32 : decode c_Q_put 32 = .ok (.aload 4, 2) := by decide +kernel
theorem d_Q_put_34 : decode c_Q_put 34 = .ok (.new 101, 3) := by decide +kernel
theorem d_Q_put_37 : decode c_Q_put 37 = .ok (.dup, 1) := by decide +kernel
theorem d_Q_put_38 : decode c_Q_put 38 = .ok (.aload 4, 2) := by decide +kernel
theorem d_Q_put_40 : decode c_Q_put 40 = .ok (.getfield 61, 3) := by decide +kernel
theorem d_Q_put_43 : decode c_Q_put 43 = .ok (.iconst 1, 1) := by decide +kernel
theorem d_Q_put_44 : decode c_Q_put 44 = .ok (.iload_n 2, 1) := by decide +kernel
theorem d_Q_put_45 : decode c_Q_put 45 = .ok (.iload_n 3, 1) := by decide +kernel
theorem d_Q_put_46 : decode c_Q_put 46 = .ok (.invokespecial 103, 3) := by decide +kernel
theorem d_Q_put_49 : decode c_Q_put 49 = .ok (.invokevirtual 106, 3) := by decide +kernel
theorem d_Q_put_52 : decode c_Q_put 52 = .ok (.ireturn, 1) := by decide +kernel
theorem d_Q_leaderFor_0 : decode c_Q_leaderFor 0 = .ok (.iload_n 1, 1) := by decide +kernel
theorem d_Q_leaderFor_1 : decode c_Q_leaderFor 1 = .ok (.invokestatic 39, 3) := by decide +kernel
theorem d_Q_leaderFor_4 : decode c_Q_leaderFor 4 = .ok (.ifCond .eq (10), 3) := by decide +kernel
theorem d_Q_leaderFor_7 : decode c_Q_leaderFor 7 = .ok (.iload_n 2, 1) := by decide +kernel
theorem d_Q_leaderFor_8 : decode c_Q_leaderFor 8 = .ok (.invokestatic 237, 3) := by decide +kernel
theorem d_Q_leaderFor_11 : decode c_Q_leaderFor 11 = .ok (.ifCond .ne (13), 3) := by decide +kernel
theorem d_Q_leaderFor_14 : decode c_Q_leaderFor 14 = .ok (.new 110, 3) := by decide +kernel
theorem d_Q_leaderFor_17 : decode c_Q_leaderFor 17 = .ok (.dup, 1) := by decide +kernel
theorem d_Q_leaderFor_18 : decode c_Q_leaderFor 18 = .ok (.ldc 248, 2) := by decide +kernel
theorem d_Q_leaderFor_20 : decode c_Q_leaderFor 20 = .ok (.invokespecial 114, 3) := by decide +kernel
theorem d_Q_leaderFor_23 : decode c_Q_leaderFor 23 = .ok (.athrow, 1) := by decide +kernel
theorem d_Q_leaderFor_24 : decode c_Q_leaderFor 24 = .ok (.aload_n 0, 1) := by decide +kernel
theorem d_Q_leaderFor_25 : decode c_Q_leaderFor 25 = .ok (.getfield 11, 3) := by decide +kernel
theorem d_Q_leaderFor_28 : decode c_Q_leaderFor 28 = .ok (.iload_n 1, 1) := by decide +kernel
theorem d_Q_leaderFor_29 : decode c_Q_leaderFor 29 = .ok (.aaload, 1) := by decide +kernel
theorem d_Q_leaderFor_30 : decode c_Q_leaderFor 30 = .ok (.invokevirtual 75, 3) := by decide +kernel
theorem d_Q_leaderFor_33 : decode c_Q_leaderFor 33 = .ok (.ifCond .ne (13), 3) := by decide +kernel
theorem d_Q_leaderFor_36 : decode c_Q_leaderFor 36 = .ok (.new 121, 3) := by decide +kernel
theorem d_Q_leaderFor_39 : decode c_Q_leaderFor 39 = .ok (.dup, 1) := by decide +kernel
theorem d_Q_leaderFor_40 : decode c_Q_leaderFor 40 = .ok (.ldc 123, 2) := by decide +kernel
theorem d_Q_leaderFor_42 : decode c_Q_leaderFor 42 = .ok (.invokespecial 125, 3) := by decide +kernel
theorem d_Q_leaderFor_45 : decode c_Q_leaderFor 45 = .ok (.athrow, 1) := by decide +kernel
theorem d_Q_leaderFor_46 : decode c_Q_leaderFor 46 = .ok (.aload_n 0, 1) := by decide +kernel
theorem d_Q_leaderFor_47 : decode c_Q_leaderFor 47 = .ok (.getfield 11, 3) := by decide +kernel
theorem d_Q_leaderFor_50 : decode c_Q_leaderFor 50 = .ok (.iload_n 1, 1) := by decide +kernel
theorem d_Q_leaderFor_51 : decode c_Q_leaderFor 51 = .ok (.aaload, 1) := by decide +kernel
theorem d_Q_leaderFor_52 : decode c_Q_leaderFor 52 = .ok (.areturn, 1) := by decide +kernel
theorem d_Q_change_0 : decode c_Q_change 0 = .ok (.iload_n 1, 1) := by decide +kernel
theorem d_Q_change_1 : decode c_Q_change 1 = .ok (.invokestatic 39, 3) := by decide +kernel
theorem d_Q_change_4 : decode c_Q_change 4 = .ok (.ifCond .eq (10), 3) := by decide +kernel
theorem d_Q_change_7 : decode c_Q_change 7 = .ok (.iload_n 2, 1) := by decide +kernel
theorem d_Q_change_8 : decode c_Q_change 8 = .ok (.invokestatic 39, 3) := by decide +kernel
theorem d_Q_change_11 : decode c_Q_change 11 = .ok (.ifCond .ne (13), 3) := by decide +kernel
theorem d_Q_change_14 : decode c_Q_change 14 = .ok (.new 110, 3) := by decide +kernel
theorem d_Q_change_17 : decode c_Q_change 17 = .ok (.dup, 1) := by decide +kernel
theorem d_Q_change_18 : decode c_Q_change 18 = .ok (.ldc 112, 2) := by decide +kernel
theorem d_Q_change_20 : decode c_Q_change 20 = .ok (.invokespecial 114, 3) := by decide +kernel
theorem d_Q_change_23 : decode c_Q_change 23 = .ok (.athrow, 1) := by decide +kernel
theorem d_Q_change_24 : decode c_Q_change 24 = .ok (.aload_n 0, 1) := by decide +kernel
theorem d_Q_change_25 : decode c_Q_change 25 = .ok (.getfield 11, 3) := by decide +kernel
theorem d_Q_change_28 : decode c_Q_change 28 = .ok (.iload_n 1, 1) := by decide +kernel
theorem d_Q_change_29 : decode c_Q_change 29 = .ok (.aaload, 1) := by decide +kernel
theorem d_Q_change_30 : decode c_Q_change 30 = .ok (.astore 4, 2) := by decide +kernel
theorem d_Q_change_32 : decode c_Q_change 32 = .ok (.aload 4, 2) := by decide +kernel
theorem d_Q_change_34 : decode c_Q_change 34 = .ok (.getfield 85, 3) := by decide +kernel
theorem d_Q_change_37 : decode c_Q_change 37 = .ok (.astore 5, 2) := by decide +kernel
theorem d_Q_change_39 : decode c_Q_change 39 = .ok (.aload 5, 2) := by decide +kernel
theorem d_Q_change_41 : decode c_Q_change 41 = .ok (.invokevirtual 115, 3) := by decide +kernel
theorem d_Q_change_44 : decode c_Q_change 44 = .ok (.istore 6, 2) := by decide +kernel
theorem d_Q_change_46 : decode c_Q_change 46 = .ok (.iload_n 3, 1) := by decide +kernel
theorem d_Q_change_47 : decode c_Q_change 47 = .ok (.ifCond .eq (12), 3) := by decide +kernel
theorem d_Q_change_50 : decode c_Q_change 50 = .ok (.iload 6, 2) := by decide +kernel
theorem d_Q_change_52 : decode c_Q_change 52 = .ok (.iconst 1, 1) := by decide +kernel
theorem d_Q_change_53 : decode c_Q_change 53 = .ok (.iload_n 2, 1) := by decide +kernel
theorem d_Q_change_54 : decode c_Q_change 54 = .ok (.ishl, 1) := by decide +kernel
theorem d_Q_change_55 : decode c_Q_change 55 = .ok (.ior, 1) := by decide +kernel
theorem d_Q_change_56 : decode c_Q_change 56 = .ok (.goto (11), 3) := by decide +kernel
theorem d_Q_change_59 : decode c_Q_change 59 = .ok (.iload 6, 2) := by decide +kernel
theorem d_Q_change_61 : decode c_Q_change 61 = .ok (.iconst 1, 1) := by decide +kernel
theorem d_Q_change_62 : decode c_Q_change 62 = .ok (.iload_n 2, 1) := by decide +kernel
theorem d_Q_change_63 : decode c_Q_change 63 = .ok (.ishl, 1) := by decide +kernel
theorem d_Q_change_64 : decode c_Q_change 64 = .ok (.iconst (-1), 1) := by decide +kernel
theorem d_Q_change_65 : decode c_Q_change 65 = .ok (.ixor, 1) := by decide +kernel
theorem d_Q_change_66 : decode c_Q_change 66 = .ok (.iand, 1) := by decide +kernel
theorem d_Q_change_67 : decode c_Q_change 67 = .ok (.istore 7, 2) := by decide +kernel
theorem d_Q_change_69 : decode c_Q_change 69 = .ok (.iload 7, 2) := by decide +kernel
theorem d_Q_change_71 : decode c_Q_change 71 = .ok (.iload 6, 2) := by decide +kernel
theorem d_Q_change_73 : decode c_Q_change 73 = .ok (.if_icmp .eq (8), 3) := by decide +kernel
theorem d_Q_change_76 : decode c_Q_change 76 = .ok (.iload 7, 2) := by decide +kernel
theorem d_Q_change_78 : decode c_Q_change 78 = .ok (.ifCond .ne (13), 3) := by decide +kernel
theorem d_Q_change_81 : decode c_Q_change 81 = .ok (.new 110, 3) := by decide +kernel
theorem d_Q_change_84 : decode c_Q_change 84 = .ok (.dup, 1) := by decide +kernel
theorem d_Q_change_85 : decode c_Q_change 85 = .ok (.ldc 119, 2) := by decide +kernel
theorem d_Q_change_87 : decode c_Q_change 87 = .ok (.invokespecial 114, 3) := by decide +kernel
theorem d_Q_change_90 : decode c_Q_change 90 = .ok (.athrow, 1) := by decide +kernel
theorem d_Q_change_91 : decode c_Q_change 91 = .ok (.aload 4, 2) := by decide +kernel
theorem d_Q_change_93 : decode c_Q_change 93 = .ok (.invokevirtual 75, 3) := by decide +kernel
theorem d_Q_change_96 : decode c_Q_change 96 = .ok (.ifCond .ne (13), 3) := by decide +kernel
theorem d_Q_change_99 : decode c_Q_change 99 = .ok (.new 121, 3) := by decide +kernel
theorem d_Q_change_102 : decode c_Q_change 102 = .ok (.dup, 1) := by decide +kernel
theorem d_Q_change_103 : decode c_Q_change 103 = .ok (.ldc 123, 2) := by decide +kernel
theorem d_Q_change_105 : decode c_Q_change 105 = .ok (.invokespecial 125, 3) := by decide +kernel
theorem d_Q_change_108 : decode c_Q_change 108 = .ok (.athrow, 1) := by decide +kernel
theorem d_Q_change_109 : decode c_Q_change 109 = .ok (.aload 5, 2) := by decide +kernel
theorem d_Q_change_111 : decode c_Q_change 111 = .ok (.getfield 89, 3) := by decide +kernel
theorem d_Q_change_114 : decode c_Q_change 114 = .ok (.bipush (24), 2) := by decide +kernel
theorem d_Q_change_116 : decode c_Q_change 116 = .ok (.if_icmp .ge (29), 3) := by decide +kernel
theorem d_Q_change_119 : decode c_Q_change 119 = .ok (.aload 5, 2) := by decide +kernel
theorem d_Q_change_121 : decode c_Q_change 121 = .ok (.aload 5, 2) := by decide +kernel
theorem d_Q_change_123 : decode c_Q_change 123 = .ok (.invokevirtual 126, 3) := by decide +kernel
theorem d_Q_change_126 : decode c_Q_change 126 = .ok (.invokevirtual 129, 3) := by decide +kernel
theorem d_Q_change_129 : decode c_Q_change 129 = .ok (.aload 4, 2) := by decide +kernel
theorem d_Q_change_131 : decode c_Q_change 131 = .ok (.getfield 133, 3) := by decide +kernel
theorem d_Q_change_134 : decode c_Q_change 134 = .ok (.if_icmp .gt (11), 3) := by decide +kernel
theorem d_Q_change_137 : decode c_Q_change 137 = .ok (.aload 4, 2) := by decide +kernel
theorem d_Q_change_139 : decode c_Q_change 139 = .ok (.invokevirtual 136, 3) := by decide +kernel
theorem d_Q_change_142 : decode c_Q_change 142 = .ok (.ifCond .ne (13), 3) := by decide +kernel
theorem d_Q_change_145 : decode c_Q_change 145 = .ok (.new 94, 3) := by decide +kernel
theorem d_Q_change_148 : decode c_Q_change 148 = .ok (.dup, 1) := by decide +kernel
theorem d_Q_change_149 : decode c_Q_change 149 = .ok (.ldc 139, 2) := by decide +kernel
theorem d_Q_change_151 : decode c_Q_change 151 = .ok (.invokespecial 98, 3) := by decide +kernel
theorem d_Q_change_154 : decode c_Q_change 154 = .ok (.athrow, 1) := by decide +kernel
theorem d_Q_change_155 : decode c_Q_change 155 = .ok (.aload_n 0, 1) := by decide +kernel
theorem d_Q_change_156 : decode c_Q_change 156 = .ok (.aload 4, 2) := by decide +kernel
theorem d_Q_change_158 : decode c_Q_change 158 = .ok (.new 101, 3) := by decide +kernel
theorem d_Q_change_161 : decode c_Q_change 161 = .ok (.dup, 1) := by decide +kernel
theorem d_Q_change_162 : decode c_Q_change 162 = .ok (.aload 4, 2) := by decide +kernel
theorem d_Q_change_164 : decode c_Q_change 164 = .ok (.getfield 61, 3) := by decide +kernel
theorem d_Q_change_167 : decode c_Q_change 167 = .ok (.iconst 2, 1) := by decide +kernel
theorem d_Q_change_168 : decode c_Q_change 168 = .ok (.iload 7, 2) := by decide +kernel
theorem d_Q_change_170 : decode c_Q_change 170 = .ok (.iconst 0, 1) := by decide +kernel
theorem d_Q_change_171 : decode c_Q_change 171 = .ok (.invokespecial 103, 3) := by decide +kernel
theorem d_Q_change_174 : decode c_Q_change 174 = .ok (.invokevirtual 106, 3) := by decide +kernel
theorem d_Q_change_177 : decode c_Q_change 177 = .ok (.ireturn, 1) := by decide +kernel
theorem d_Q_read_0 : decode c_Q_read 0 = .ok (.aload_n 0, 1) := by decide +kernel
theorem d_Q_read_1 : decode c_Q_read 1 = .ok (.iload_n 1, 1) := by decide +kernel
theorem d_Q_read_2 : decode c_Q_read 2 = .ok (.iload_n 2, 1) := by decide +kernel
theorem d_Q_read_3 : decode c_Q_read 3 = .ok (.invokevirtual 81, 3) := by decide +kernel
theorem d_Q_read_6 : decode c_Q_read 6 = .ok (.astore_n 3, 1) := by decide +kernel
theorem d_Q_read_7 : decode c_Q_read 7 = .ok (.aload_n 0, 1) := by decide +kernel
theorem d_Q_read_8 : decode c_Q_read 8 = .ok (.getfield 18, 3) := by decide +kernel
theorem d_Q_read_11 : decode c_Q_read 11 = .ok (.iload_n 1, 1) := by decide +kernel
theorem d_Q_read_12 : decode c_Q_read 12 = .ok (.invokevirtual 141, 3) := by decide +kernel
theorem d_Q_read_15 : decode c_Q_read 15 = .ok (.iconst 4, 1) := by decide +kernel
theorem d_Q_read_16 : decode c_Q_read 16 = .ok (.if_icmp .ge (22), 3) := by decide +kernel
theorem d_Q_read_19 : decode c_Q_read 19 = .ok (.aload_n 0, 1) := by decide +kernel
theorem d_Q_read_20 : decode c_Q_read 20 = .ok (.getfield 18, 3) := by decide +kernel
theorem d_Q_read_23 : decode c_Q_read 23 = .ok (.getfield 144, 3) := by decide +kernel
theorem d_Q_read_26 : decode c_Q_read 26 = .ok (.bipush (60), 2) := by decide +kernel
theorem d_Q_read_28 : decode c_Q_read 28 = .ok (.if_icmp .ge (10), 3) := by decide +kernel
theorem d_Q_read_31 : decode c_Q_read 31 = .ok (.aload_n 3, 1) := by decide +kernel
theorem d_Q_read_32 : decode c_Q_read 32 = .ok (.invokevirtual 136, 3) := by decide +kernel
theorem d_Q_read_35 : decode c_Q_read 35 = .ok (.ifCond .ne (13), 3) := by decide +kernel
theorem d_Q_read_38 : decode c_Q_read 38 = .ok (.new 94, 3) := by decide +kernel
theorem d_Q_read_41 : decode c_Q_read 41 = .ok (.dup, 1) := by decide +kernel
theorem d_Q_read_42 : decode c_Q_read 42 = .ok (.ldc 145, 2) := by decide +kernel
theorem d_Q_read_44 : decode c_Q_read 44 = .ok (.invokespecial 98, 3) := by decide +kernel
theorem d_Q_read_47 : decode c_Q_read 47 = .ok (.athrow, 1) := by decide +kernel
theorem d_Q_read_48 : decode c_Q_read 48 = .ok (.aload_n 3, 1) := by decide +kernel
theorem d_Q_read_49 : decode c_Q_read 49 = .ok (.dup, 1) := by decide +kernel
theorem d_Q_read_50 : decode c_Q_read 50 = .ok (.getfield 147, 3) := by decide +kernel
theorem d_Q_read_53 : decode c_Q_read 53 = .ok (.iconst 1, 1) := by decide +kernel
theorem d_Q_read_54 : decode c_Q_read 54 = .ok (.iadd, 1) := by decide +kernel
theorem d_Q_read_55 : decode c_Q_read 55 = .ok (.putfield 147, 3) := by decide +kernel
theorem d_Q_read_58 : decode c_Q_read 58 = .ok (.aload_n 0, 1) := by decide +kernel
theorem d_Q_read_59 : decode c_Q_read 59 = .ok (.getfield 18, 3) := by decide +kernel
theorem d_Q_read_62 : decode c_Q_read 62 = .ok (.iload_n 1, 1) := by decide +kernel
theorem d_Q_read_63 : decode c_Q_read 63 = .ok (.iload_n 2, 1) := by decide +kernel
theorem d_Q_read_64 : decode c_Q_read 64 = .ok (.aload_n 3, 1) := by decide +kernel
theorem d_Q_read_65 : decode c_Q_read 65 = .ok (.getfield 147, 3) := by decide +kernel
theorem d_Q_read_68 : decode c_Q_read 68 = .ok (.invokevirtual 150, 3) := by decide +kernel
theorem d_Q_read_71 : decode c_Q_read 71 = .ok (.istore 4, 2) := by decide +kernel
theorem d_Q_read_73 : decode c_Q_read 73 = .ok (.aload_n 0, 1) := by decide +kernel
theorem d_Q_read_74 : decode c_Q_read 74 = .ok (.aload_n 3, 1) := by decide +kernel
theorem d_Q_read_75 : decode c_Q_read 75 = .ok (.invokevirtual 78, 3) := by decide +kernel
theorem d_Q_read_78 : decode c_Q_read 78 = .ok (.aload_n 0, 1) := by decide +kernel
theorem d_Q_read_79 : decode c_Q_read 79 = .ok (.aload_n 3, 1) := by decide +kernel
theorem d_Q_read_80 : decode c_Q_read 80 = .ok (.invokevirtual 154, 3) := by decide +kernel
theorem d_Q_read_83 : decode c_Q_read 83 = .ok (.iload 4, 2) := by decide +kernel
theorem d_Q_read_85 : decode c_Q_read 85 = .ok (.ireturn, 1) := by decide +kernel
theorem oi_Q_1 : Cond.methodLink "QuorumLog" 1 Lib.objectInit ∈ qu_W := qm_23
theorem cl_Q_9 : Cond.classLink "QuorumLog" 9 "QuorumLog$Server" ∈ qu_W := qm_26
theorem fp_Q_11 : qx_FP "QuorumLog" 11 0 0 (.array (.object "QuorumLog$Server")) true := ⟨"QuorumLog", T_Q, 3, t_Q, rfl, by decide, uw_Q, qm_238, k_Q, n_Q, by decide +kernel, rfl, fun _ => rfl⟩
theorem nw_Q_15 : qx_NW "QuorumLog" 15 4 [.null, .null, .null, .null, .null, .int 0] 6 := ⟨"QuorumLog$Reads", T_R, t_R, rfl, uw_R, k_R, fun j hj => by revert j; decide +kernel, qm_28, qm_29, qm_2⟩
theorem s_Q_init_17 {l : Launch} {G : qh_G} {h : qh_H} {b0 : Nat} {rest : List Value} : qx_Site l G "QuorumLog" c_Q_init 17 y_R_init (.ref b0 :: []) rest h := qx_siteIN (As := []) d_Q_init_17 rfl (List.mem_of_getElem? (i := 0) rfl) qm_31 w_R_init.1 (by decide) p_R_init
theorem fp_Q_18 : qx_FP "QuorumLog" 18 0 2 (.object "QuorumLog$Reads") true := ⟨"QuorumLog", T_Q, 3, t_Q, rfl, by decide, uw_Q, qm_240, k_Q, n_Q, by decide +kernel, rfl, fun _ => rfl⟩
theorem nw_Q_22 : qx_NW "QuorumLog" 22 7 [.int 0, .int 0, .int 0, .null] 4 := ⟨"QuorumLog$Snapshot", T_N, t_N, rfl, uw_N, k_N, fun j hj => by revert j; decide +kernel, qm_59, qm_60, qm_3⟩
theorem s_Q_init_46 {l : Launch} {G : qh_G} {h : qh_H} {b0 : Nat} {rest : List Value} {v0 v1 v2 v3 : Value} : qx_Site l G "QuorumLog" c_Q_init 46 y_N_init (.ref b0 :: [v0, v1, v2, v3]) rest h := qx_siteI (As := [v0, v1, v2, v3]) d_Q_init_46 rfl qm_61 qm_62 w_N_init.1 (by decide) p_N_init
theorem fl_Q_11 : qx_FL "QuorumLog" 11 0 0 := ⟨"QuorumLog", T_Q, 3, rfl, by decide, uw_Q, qm_238⟩
theorem nw_Q_9 : qx_NW "QuorumLog" 9 6 [.int 0, .null, .null, .null, .null, .int 0, .int 0, .int 0, .int 0, .int 0, .int 0, .int 0, .int 0] 13 := ⟨"QuorumLog$Server", T_S, t_S, rfl, uw_S, k_S, fun j hj => by revert j; decide +kernel, qm_26, qm_83, qm_4⟩
theorem s_Q_init_72 {l : Launch} {G : qh_G} {h : qh_H} {b0 : Nat} {rest : List Value} {v0 v1 : Value} : qx_Site l G "QuorumLog" c_Q_init 72 y_S_init (.ref b0 :: [v0, v1]) rest h := qx_siteI (As := [v0, v1]) d_Q_init_72 rfl qm_84 qm_85 w_S_init.1 (by decide) p_S_init
theorem nw_Q_30 : qx_NW "QuorumLog" 30 5 [.null, .null, .int 0] 3 := ⟨"QuorumLog$Row", T_W, t_W, rfl, uw_W, k_W, fun j hj => by revert j; decide +kernel, qm_159, qm_160, qm_6⟩
theorem s_Q_init_88 {l : Launch} {G : qh_G} {h : qh_H} {b0 : Nat} {rest : List Value} {v0 : Value} : qx_Site l G "QuorumLog" c_Q_init 88 y_W_init (.ref b0 :: [v0]) rest h := qx_siteI (As := [v0]) d_Q_init_88 rfl qm_161 qm_162 w_W_init.1 (by decide) p_W_init
theorem fp_Q_35 : qx_FP "QuorumLog" 35 0 1 (.object "QuorumLog$Row") true := ⟨"QuorumLog", T_Q, 3, t_Q, rfl, by decide, uw_Q, qm_239, k_Q, n_Q, by decide +kernel, rfl, fun _ => rfl⟩
theorem s_Q_timer_1 {l : Launch} {G : qh_G} {h : qh_H} {rest : List Value} {v0 : Value} : qx_Site l G "QuorumLog" c_Q_timer 1 y_Q_isServer [v0] rest h := qx_siteS (As := [v0]) d_Q_timer_1 qm_252 qm_253 qm_1 w_Q_isServer.1 (by decide) p_Q_isServer
theorem s_Q_timer_13 {l : Launch} {G : qh_G} {h : qh_H} {b0 : Nat} {fs rest : List Value} (hb0 : h b0 = some (.inr (6, fs))) : qx_Site l G "QuorumLog" c_Q_timer 13 y_S_mayAsk (.ref b0 :: []) rest h := qx_siteV (As := []) (E := "QuorumLog$Server") (ci := 6) d_Q_timer_13 qm_255 qm_256 qm_257 w_S_mayAsk.1 (by decide) rfl p_S_mayAsk hb0
theorem fp_Q_47 : qx_FP "QuorumLog" 47 6 6 (.boolean) false := ⟨"QuorumLog$Server", T_S, 13, t_S, rfl, by decide, uw_S, qm_121, k_S, n_S, by decide +kernel, rfl, fun _ => by contradiction⟩
theorem fp_Q_51 : qx_FP "QuorumLog" 51 6 9 (.int) false := ⟨"QuorumLog$Server", T_S, 13, t_S, rfl, by decide, uw_S, qm_127, k_S, n_S, by decide +kernel, rfl, fun _ => by contradiction⟩
theorem fl_Q_55 : qx_FL "QuorumLog" 55 6 0 := ⟨"QuorumLog$Server", T_S, 13, rfl, by decide, uw_S, qm_110⟩
theorem fp_Q_58 : qx_FP "QuorumLog" 58 6 12 (.int) false := ⟨"QuorumLog$Server", T_S, 13, t_S, rfl, by decide, uw_S, qm_131, k_S, n_S, by decide +kernel, rfl, fun _ => by contradiction⟩
theorem fl_Q_61 : qx_FL "QuorumLog" 61 6 7 := ⟨"QuorumLog$Server", T_S, 13, rfl, by decide, uw_S, qm_122⟩
theorem s_Q_timer_57 {l : Launch} {G : qh_G} {h : qh_H} {b0 : Nat} {fs rest : List Value} {v0 v1 v2 : Value} (hb0 : h b0 = some (.inr (0, fs))) : qx_Site l G "QuorumLog" c_Q_timer 57 y_Q_askAll (.ref b0 :: [v0, v1, v2]) rest h := qx_siteV (As := [v0, v1, v2]) (E := "QuorumLog") (ci := 0) d_Q_timer_57 qm_282 qm_284 qs_0 w_Q_askAll.1 (by decide) rfl p_Q_askAll hb0
theorem s_Q_timer_62 {l : Launch} {G : qh_G} {h : qh_H} {b0 : Nat} {fs rest : List Value} {v0 : Value} (hb0 : h b0 = some (.inr (0, fs))) : qx_Site l G "QuorumLog" c_Q_timer 62 y_Q_standIfMostSaidYes (.ref b0 :: [v0]) rest h := qx_siteV (As := [v0]) (E := "QuorumLog") (ci := 0) d_Q_timer_62 qm_305 qm_307 qs_1 w_Q_standIfMostSaidYes.1 (by decide) rfl p_Q_standIfMostSaidYes hb0
theorem s_Q_timer_67 {l : Launch} {G : qh_G} {h : qh_H} {b0 : Nat} {fs rest : List Value} {v0 : Value} (hb0 : h b0 = some (.inr (0, fs))) : qx_Site l G "QuorumLog" c_Q_timer 67 y_Q_leadIfMostSaidYes (.ref b0 :: [v0]) rest h := qx_siteV (As := [v0]) (E := "QuorumLog") (ci := 0) d_Q_timer_67 qm_318 qm_320 qs_2 w_Q_leadIfMostSaidYes.1 (by decide) rfl p_Q_leadIfMostSaidYes hb0
theorem fl_Q_85 : qx_FL "QuorumLog" 85 6 1 := ⟨"QuorumLog$Server", T_S, 13, rfl, by decide, uw_S, qm_112⟩
theorem s_Q_askAll_4 {l : Launch} {G : qh_G} {h : qh_H} {b0 : Nat} {fs rest : List Value} (hb0 : h b0 = some (.inr (2, fs))) : qx_Site l G "QuorumLog" c_Q_askAll 4 y_L_configuration (.ref b0 :: []) rest h := qx_siteV (As := []) (E := "QuorumLog$Log") (ci := 2) d_Q_askAll_4 qm_286 qm_260 qm_261 w_L_configuration.1 (by decide) rfl p_L_configuration hb0
theorem s_Q_askAll_31 {l : Launch} {G : qh_G} {h : qh_H} {rest : List Value} {v0 v1 : Value} : qx_Site l G "QuorumLog" c_Q_askAll 31 y_Q_isIn [v0, v1] rest h := qx_siteS (As := [v0, v1]) d_Q_askAll_31 qm_287 qm_280 qm_1 w_Q_isIn.1 (by decide) p_Q_isIn
theorem fl_Q_35 : qx_FL "QuorumLog" 35 0 1 := ⟨"QuorumLog", T_Q, 3, rfl, by decide, uw_Q, qm_239⟩
theorem s_Q_askAll_49 {l : Launch} {G : qh_G} {h : qh_H} {b0 : Nat} {fs rest : List Value} {v0 v1 v2 v3 : Value} (hb0 : h b0 = some (.inr (5, fs))) : qx_Site l G "QuorumLog" c_Q_askAll 49 y_W_send (.ref b0 :: [v0, v1, v2, v3]) rest h := qx_siteV (As := [v0, v1, v2, v3]) (E := "QuorumLog$Row") (ci := 5) d_Q_askAll_49 qm_288 qm_289 qm_290 w_W_send.1 (by decide) rfl p_W_send hb0
theorem s_Q_askAll_60 {l : Launch} {G : qh_G} {h : qh_H} {b0 : Nat} {fs rest : List Value} (hb0 : h b0 = some (.inr (2, fs))) : qx_Site l G "QuorumLog" c_Q_askAll 60 y_L_last (.ref b0 :: []) rest h := qx_siteV (As := []) (E := "QuorumLog$Log") (ci := 2) d_Q_askAll_60 qm_296 qm_264 qm_265 w_L_last.1 (by decide) rfl p_L_last hb0
theorem fp_Q_213 : qx_FP "QuorumLog" 213 3 5 (.int) false := ⟨"QuorumLog$Message", T_M, 12, t_M, rfl, by decide, uw_M, qm_186, k_M, n_M, by decide +kernel, rfl, fun _ => by contradiction⟩
theorem s_Q_askAll_72 {l : Launch} {G : qh_G} {h : qh_H} {b0 : Nat} {fs rest : List Value} (hb0 : h b0 = some (.inr (2, fs))) : qx_Site l G "QuorumLog" c_Q_askAll 72 y_L_lastTerm (.ref b0 :: []) rest h := qx_siteV (As := []) (E := "QuorumLog$Log") (ci := 2) d_Q_askAll_72 qm_297 qm_298 qm_299 w_L_lastTerm.1 (by decide) rfl p_L_lastTerm hb0
theorem fp_Q_261 : qx_FP "QuorumLog" 261 3 6 (.int) false := ⟨"QuorumLog$Message", T_M, 12, t_M, rfl, by decide, uw_M, qm_189, k_M, n_M, by decide +kernel, rfl, fun _ => by contradiction⟩
theorem fl_Q_51 : qx_FL "QuorumLog" 51 6 9 := ⟨"QuorumLog$Server", T_S, 13, rfl, by decide, uw_S, qm_127⟩
theorem fl_Q_58 : qx_FL "QuorumLog" 58 6 12 := ⟨"QuorumLog$Server", T_S, 13, rfl, by decide, uw_S, qm_131⟩
theorem s_Q_standIfMostSaidYes_16 {l : Launch} {G : qh_G} {h : qh_H} {b0 : Nat} {fs rest : List Value} (hb0 : h b0 = some (.inr (2, fs))) : qx_Site l G "QuorumLog" c_Q_standIfMostSaidYes 16 y_L_configuration (.ref b0 :: []) rest h := qx_siteV (As := []) (E := "QuorumLog$Log") (ci := 2) d_Q_standIfMostSaidYes_16 qm_286 qm_260 qm_261 w_L_configuration.1 (by decide) rfl p_L_configuration hb0
theorem s_Q_standIfMostSaidYes_19 {l : Launch} {G : qh_G} {h : qh_H} {rest : List Value} {v0 v1 : Value} : qx_Site l G "QuorumLog" c_Q_standIfMostSaidYes 19 y_Q_areMost [v0, v1] rest h := qx_siteS (As := [v0, v1]) d_Q_standIfMostSaidYes_19 qm_309 qm_310 qm_1 w_Q_areMost.1 (by decide) p_Q_areMost
theorem fp_Q_61 : qx_FP "QuorumLog" 61 6 7 (.int) false := ⟨"QuorumLog$Server", T_S, 13, t_S, rfl, by decide, uw_S, qm_122, k_S, n_S, by decide +kernel, rfl, fun _ => by contradiction⟩
theorem fp_Q_220 : qx_FP "QuorumLog" 220 6 8 (.int) false := ⟨"QuorumLog$Server", T_S, 13, t_S, rfl, by decide, uw_S, qm_125, k_S, n_S, by decide +kernel, rfl, fun _ => by contradiction⟩
theorem s_Q_standIfMostSaidYes_66 {l : Launch} {G : qh_G} {h : qh_H} {b0 : Nat} {fs rest : List Value} {v0 v1 v2 : Value} (hb0 : h b0 = some (.inr (0, fs))) : qx_Site l G "QuorumLog" c_Q_standIfMostSaidYes 66 y_Q_askAll (.ref b0 :: [v0, v1, v2]) rest h := qx_siteV (As := [v0, v1, v2]) (E := "QuorumLog") (ci := 0) d_Q_standIfMostSaidYes_66 qm_282 qm_284 qs_0 w_Q_askAll.1 (by decide) rfl p_Q_askAll hb0
theorem s_Q_areMost_4 {l : Launch} {G : qh_G} {h : qh_H} {rest : List Value} {v0 : Value} : qx_Site l G "QuorumLog" c_Q_areMost 4 y_I_bitCount [v0] rest h := qx_siteS (As := [v0]) d_Q_areMost_4 qm_312 qm_313 qm_9 w_I_bitCount.1 (by decide) p_I_bitCount
theorem s_Q_areMost_9 {l : Launch} {G : qh_G} {h : qh_H} {rest : List Value} {v0 : Value} : qx_Site l G "QuorumLog" c_Q_areMost 9 y_I_bitCount [v0] rest h := qx_siteS (As := [v0]) d_Q_areMost_9 qm_312 qm_313 qm_9 w_I_bitCount.1 (by decide) p_I_bitCount
theorem s_Q_leadIfMostSaidYes_16 {l : Launch} {G : qh_G} {h : qh_H} {b0 : Nat} {fs rest : List Value} (hb0 : h b0 = some (.inr (2, fs))) : qx_Site l G "QuorumLog" c_Q_leadIfMostSaidYes 16 y_L_configuration (.ref b0 :: []) rest h := qx_siteV (As := []) (E := "QuorumLog$Log") (ci := 2) d_Q_leadIfMostSaidYes_16 qm_286 qm_260 qm_261 w_L_configuration.1 (by decide) rfl p_L_configuration hb0
theorem s_Q_leadIfMostSaidYes_19 {l : Launch} {G : qh_G} {h : qh_H} {rest : List Value} {v0 v1 : Value} : qx_Site l G "QuorumLog" c_Q_leadIfMostSaidYes 19 y_Q_areMost [v0, v1] rest h := qx_siteS (As := [v0, v1]) d_Q_leadIfMostSaidYes_19 qm_309 qm_310 qm_1 w_Q_areMost.1 (by decide) p_Q_areMost
theorem fp_Q_147 : qx_FP "QuorumLog" 147 6 11 (.int) false := ⟨"QuorumLog$Server", T_S, 13, t_S, rfl, by decide, uw_S, qm_130, k_S, n_S, by decide +kernel, rfl, fun _ => by contradiction⟩
theorem fl_Q_267 : qx_FL "QuorumLog" 267 6 2 := ⟨"QuorumLog$Server", T_S, 13, rfl, by decide, uw_S, qm_114⟩
theorem s_Q_leadIfMostSaidYes_52 {l : Launch} {G : qh_G} {h : qh_H} {b0 : Nat} {fs rest : List Value} (hb0 : h b0 = some (.inr (2, fs))) : qx_Site l G "QuorumLog" c_Q_leadIfMostSaidYes 52 y_L_last (.ref b0 :: []) rest h := qx_siteV (As := []) (E := "QuorumLog$Log") (ci := 2) d_Q_leadIfMostSaidYes_52 qm_296 qm_264 qm_265 w_L_last.1 (by decide) rfl p_L_last hb0
theorem fl_Q_270 : qx_FL "QuorumLog" 270 6 3 := ⟨"QuorumLog$Server", T_S, 13, rfl, by decide, uw_S, qm_116⟩
theorem fl_Q_273 : qx_FL "QuorumLog" 273 6 4 := ⟨"QuorumLog$Server", T_S, 13, rfl, by decide, uw_S, qm_118⟩
theorem nw_Q_101 : qx_NW "QuorumLog" 101 1 [.int 0, .int 0, .int 0, .int 0] 4 := ⟨"QuorumLog$Entry", T_E, t_E, rfl, uw_E, k_E, fun j hj => by revert j; decide +kernel, qm_322, qm_323, qm_10⟩
theorem s_Q_leadIfMostSaidYes_91 {l : Launch} {G : qh_G} {h : qh_H} {b0 : Nat} {rest : List Value} {v0 v1 v2 v3 : Value} : qx_Site l G "QuorumLog" c_Q_leadIfMostSaidYes 91 y_E_init (.ref b0 :: [v0, v1, v2, v3]) rest h := qx_siteI (As := [v0, v1, v2, v3]) d_Q_leadIfMostSaidYes_91 rfl qm_324 qm_325 w_E_init.1 (by decide) p_E_init
theorem s_Q_leadIfMostSaidYes_94 {l : Launch} {G : qh_G} {h : qh_H} {b0 : Nat} {fs rest : List Value} {v0 v1 : Value} (hb0 : h b0 = some (.inr (0, fs))) : qx_Site l G "QuorumLog" c_Q_leadIfMostSaidYes 94 y_Q_append (.ref b0 :: [v0, v1]) rest h := qx_siteV (As := [v0, v1]) (E := "QuorumLog") (ci := 0) d_Q_leadIfMostSaidYes_94 qm_349 qm_351 qs_3 w_Q_append.1 (by decide) rfl p_Q_append hb0
theorem s_Q_append_5 {l : Launch} {G : qh_G} {h : qh_H} {b0 : Nat} {fs rest : List Value} {v0 : Value} (hb0 : h b0 = some (.inr (2, fs))) : qx_Site l G "QuorumLog" c_Q_append 5 y_L_add (.ref b0 :: [v0]) rest h := qx_siteV (As := [v0]) (E := "QuorumLog$Log") (ci := 2) d_Q_append_5 qm_353 qm_354 qm_355 w_L_add.1 (by decide) rfl p_L_add hb0
theorem s_Q_append_11 {l : Launch} {G : qh_G} {h : qh_H} {b0 : Nat} {fs rest : List Value} {v0 : Value} (hb0 : h b0 = some (.inr (0, fs))) : qx_Site l G "QuorumLog" c_Q_append 11 y_Q_lookAtCommit (.ref b0 :: [v0]) rest h := qx_siteV (As := [v0]) (E := "QuorumLog") (ci := 0) d_Q_append_11 qm_357 qm_359 qs_4 w_Q_lookAtCommit.1 (by decide) rfl p_Q_lookAtCommit hb0
theorem s_Q_append_16 {l : Launch} {G : qh_G} {h : qh_H} {b0 : Nat} {fs rest : List Value} {v0 : Value} (hb0 : h b0 = some (.inr (0, fs))) : qx_Site l G "QuorumLog" c_Q_append 16 y_Q_sendToAll (.ref b0 :: [v0]) rest h := qx_siteV (As := [v0]) (E := "QuorumLog") (ci := 0) d_Q_append_16 qm_383 qm_385 qs_7 w_Q_sendToAll.1 (by decide) rfl p_Q_sendToAll hb0
theorem s_Q_append_23 {l : Launch} {G : qh_G} {h : qh_H} {b0 : Nat} {fs rest : List Value} (hb0 : h b0 = some (.inr (2, fs))) : qx_Site l G "QuorumLog" c_Q_append 23 y_L_last (.ref b0 :: []) rest h := qx_siteV (As := []) (E := "QuorumLog$Log") (ci := 2) d_Q_append_23 qm_296 qm_264 qm_265 w_L_last.1 (by decide) rfl p_L_last hb0
theorem s_Q_lookAtCommit_4 {l : Launch} {G : qh_G} {h : qh_H} {b0 : Nat} {fs rest : List Value} (hb0 : h b0 = some (.inr (2, fs))) : qx_Site l G "QuorumLog" c_Q_lookAtCommit 4 y_L_configuration (.ref b0 :: []) rest h := qx_siteV (As := []) (E := "QuorumLog$Log") (ci := 2) d_Q_lookAtCommit_4 qm_286 qm_260 qm_261 w_L_configuration.1 (by decide) rfl p_L_configuration hb0
theorem s_Q_lookAtCommit_12 {l : Launch} {G : qh_G} {h : qh_H} {b0 : Nat} {fs rest : List Value} (hb0 : h b0 = some (.inr (2, fs))) : qx_Site l G "QuorumLog" c_Q_lookAtCommit 12 y_L_last (.ref b0 :: []) rest h := qx_siteV (As := []) (E := "QuorumLog$Log") (ci := 2) d_Q_lookAtCommit_12 qm_296 qm_264 qm_265 w_L_last.1 (by decide) rfl p_L_last hb0
theorem fl_Q_133 : qx_FL "QuorumLog" 133 6 10 := ⟨"QuorumLog$Server", T_S, 13, rfl, by decide, uw_S, qm_129⟩
theorem s_Q_lookAtCommit_29 {l : Launch} {G : qh_G} {h : qh_H} {b0 : Nat} {fs rest : List Value} {v0 : Value} (hb0 : h b0 = some (.inr (2, fs))) : qx_Site l G "QuorumLog" c_Q_lookAtCommit 29 y_L_termAt (.ref b0 :: [v0]) rest h := qx_siteV (As := [v0]) (E := "QuorumLog$Log") (ci := 2) d_Q_lookAtCommit_29 qm_361 qm_302 qm_303 w_L_termAt.1 (by decide) rfl p_L_termAt hb0
theorem s_Q_lookAtCommit_41 {l : Launch} {G : qh_G} {h : qh_H} {b0 : Nat} {fs rest : List Value} {v0 : Value} (hb0 : h b0 = some (.inr (6, fs))) : qx_Site l G "QuorumLog" c_Q_lookAtCommit 41 y_S_holdersOf (.ref b0 :: [v0]) rest h := qx_siteV (As := [v0]) (E := "QuorumLog$Server") (ci := 6) d_Q_lookAtCommit_41 qm_362 qm_363 qm_364 w_S_holdersOf.1 (by decide) rfl p_S_holdersOf hb0
theorem s_Q_lookAtCommit_45 {l : Launch} {G : qh_G} {h : qh_H} {rest : List Value} {v0 v1 : Value} : qx_Site l G "QuorumLog" c_Q_lookAtCommit 45 y_Q_areMost [v0, v1] rest h := qx_siteS (As := [v0, v1]) d_Q_lookAtCommit_45 qm_309 qm_310 qm_1 w_Q_areMost.1 (by decide) p_Q_areMost
theorem fp_Q_133 : qx_FP "QuorumLog" 133 6 10 (.int) false := ⟨"QuorumLog$Server", T_S, 13, t_S, rfl, by decide, uw_S, qm_129, k_S, n_S, by decide +kernel, rfl, fun _ => by contradiction⟩
theorem s_Q_lookAtCommit_73 {l : Launch} {G : qh_G} {h : qh_H} {b0 : Nat} {fs rest : List Value} (hb0 : h b0 = some (.inr (2, fs))) : qx_Site l G "QuorumLog" c_Q_lookAtCommit 73 y_L_last (.ref b0 :: []) rest h := qx_siteV (As := []) (E := "QuorumLog$Log") (ci := 2) d_Q_lookAtCommit_73 qm_296 qm_264 qm_265 w_L_last.1 (by decide) rfl p_L_last hb0
theorem s_Q_lookAtCommit_76 {l : Launch} {G : qh_G} {h : qh_H} {b0 : Nat} {fs rest : List Value} {v0 : Value} (hb0 : h b0 = some (.inr (2, fs))) : qx_Site l G "QuorumLog" c_Q_lookAtCommit 76 y_L_latestMembersUpTo (.ref b0 :: [v0]) rest h := qx_siteV (As := [v0]) (E := "QuorumLog$Log") (ci := 2) d_Q_lookAtCommit_76 qm_370 qm_268 qm_269 w_L_latestMembersUpTo.1 (by decide) rfl p_L_latestMembersUpTo hb0
theorem s_Q_lookAtCommit_98 {l : Launch} {G : qh_G} {h : qh_H} {rest : List Value} {v0 v1 : Value} : qx_Site l G "QuorumLog" c_Q_lookAtCommit 98 y_Q_isIn [v0, v1] rest h := qx_siteS (As := [v0, v1]) d_Q_lookAtCommit_98 qm_287 qm_280 qm_1 w_Q_isIn.1 (by decide) p_Q_isIn
theorem s_Q_lookAtCommit_106 {l : Launch} {G : qh_G} {h : qh_H} {b0 : Nat} {fs rest : List Value} {v0 : Value} (hb0 : h b0 = some (.inr (0, fs))) : qx_Site l G "QuorumLog" c_Q_lookAtCommit 106 y_Q_follow (.ref b0 :: [v0]) rest h := qx_siteV (As := [v0]) (E := "QuorumLog") (ci := 0) d_Q_lookAtCommit_106 qm_371 qm_373 qs_6 w_Q_follow.1 (by decide) rfl p_Q_follow hb0
theorem fl_Q_18 : qx_FL "QuorumLog" 18 0 2 := ⟨"QuorumLog", T_Q, 3, rfl, by decide, uw_Q, qm_240⟩
theorem s_Q_follow_16 {l : Launch} {G : qh_G} {h : qh_H} {b0 : Nat} {fs rest : List Value} {v0 : Value} (hb0 : h b0 = some (.inr (4, fs))) : qx_Site l G "QuorumLog" c_Q_follow 16 y_R_failAllOf (.ref b0 :: [v0]) rest h := qx_siteV (As := [v0]) (E := "QuorumLog$Reads") (ci := 4) d_Q_follow_16 qm_375 qm_376 qm_377 w_R_failAllOf.1 (by decide) rfl p_R_failAllOf hb0
theorem s_Q_sendToAll_4 {l : Launch} {G : qh_G} {h : qh_H} {b0 : Nat} {fs rest : List Value} (hb0 : h b0 = some (.inr (2, fs))) : qx_Site l G "QuorumLog" c_Q_sendToAll 4 y_L_configuration (.ref b0 :: []) rest h := qx_siteV (As := []) (E := "QuorumLog$Log") (ci := 2) d_Q_sendToAll_4 qm_286 qm_260 qm_261 w_L_configuration.1 (by decide) rfl p_L_configuration hb0
theorem s_Q_sendToAll_25 {l : Launch} {G : qh_G} {h : qh_H} {rest : List Value} {v0 v1 : Value} : qx_Site l G "QuorumLog" c_Q_sendToAll 25 y_Q_isIn [v0, v1] rest h := qx_siteS (As := [v0, v1]) d_Q_sendToAll_25 qm_287 qm_280 qm_1 w_Q_isIn.1 (by decide) p_Q_isIn
theorem s_Q_sendToAll_34 {l : Launch} {G : qh_G} {h : qh_H} {b0 : Nat} {fs rest : List Value} {v0 v1 : Value} (hb0 : h b0 = some (.inr (0, fs))) : qx_Site l G "QuorumLog" c_Q_sendToAll 34 y_Q_sendTo (.ref b0 :: [v0, v1]) rest h := qx_siteV (As := [v0, v1]) (E := "QuorumLog") (ci := 0) d_Q_sendToAll_34 qm_387 qm_389 qs_8 w_Q_sendTo.1 (by decide) rfl p_Q_sendTo hb0
theorem fl_Q_170 : qx_FL "QuorumLog" 170 2 0 := ⟨"QuorumLog$Log", T_L, 3, rfl, by decide, uw_L, qm_97⟩
theorem fl_Q_174 : qx_FL "QuorumLog" 174 7 0 := ⟨"QuorumLog$Snapshot", T_N, 4, rfl, by decide, uw_N, qm_67⟩
theorem s_Q_sendTo_54 {l : Launch} {G : qh_G} {h : qh_H} {b0 : Nat} {fs rest : List Value} {v0 v1 v2 v3 : Value} (hb0 : h b0 = some (.inr (5, fs))) : qx_Site l G "QuorumLog" c_Q_sendTo 54 y_W_send (.ref b0 :: [v0, v1, v2, v3]) rest h := qx_siteV (As := [v0, v1, v2, v3]) (E := "QuorumLog$Row") (ci := 5) d_Q_sendTo_54 qm_288 qm_289 qm_290 w_W_send.1 (by decide) rfl p_W_send hb0
theorem fl_Q_147 : qx_FL "QuorumLog" 147 6 11 := ⟨"QuorumLog$Server", T_S, 13, rfl, by decide, uw_S, qm_130⟩
theorem fp_Q_219 : qx_FP "QuorumLog" 219 3 9 (.int) false := ⟨"QuorumLog$Message", T_M, 12, t_M, rfl, by decide, uw_M, qm_196, k_M, n_M, by decide +kernel, rfl, fun _ => by contradiction⟩
theorem fp_Q_293 : qx_FP "QuorumLog" 293 3 11 (.object "QuorumLog$Snapshot") false := ⟨"QuorumLog$Message", T_M, 12, t_M, rfl, by decide, uw_M, qm_200, k_M, n_M, by decide +kernel, rfl, fun _ => by contradiction⟩
theorem s_Q_sendTo_116 {l : Launch} {G : qh_G} {h : qh_H} {b0 : Nat} {fs rest : List Value} {v0 : Value} (hb0 : h b0 = some (.inr (2, fs))) : qx_Site l G "QuorumLog" c_Q_sendTo 116 y_L_termAt (.ref b0 :: [v0]) rest h := qx_siteV (As := [v0]) (E := "QuorumLog$Log") (ci := 2) d_Q_sendTo_116 qm_361 qm_302 qm_303 w_L_termAt.1 (by decide) rfl p_L_termAt hb0
theorem fp_Q_294 : qx_FP "QuorumLog" 294 3 8 (.int) false := ⟨"QuorumLog$Message", T_M, 12, t_M, rfl, by decide, uw_M, qm_194, k_M, n_M, by decide +kernel, rfl, fun _ => by contradiction⟩
theorem fl_Q_295 : qx_FL "QuorumLog" 295 3 0 := ⟨"QuorumLog$Message", T_M, 12, rfl, by decide, uw_M, qm_175⟩
theorem s_Q_sendTo_143 {l : Launch} {G : qh_G} {h : qh_H} {b0 : Nat} {fs rest : List Value} {v0 v1 : Value} (hb0 : h b0 = some (.inr (2, fs))) : qx_Site l G "QuorumLog" c_Q_sendTo 143 y_L_copyBehind (.ref b0 :: [v0, v1]) rest h := qx_siteV (As := [v0, v1]) (E := "QuorumLog$Log") (ci := 2) d_Q_sendTo_143 qm_391 qm_392 qm_393 w_L_copyBehind.1 (by decide) rfl p_L_copyBehind hb0
theorem fp_Q_214 : qx_FP "QuorumLog" 214 3 7 (.int) false := ⟨"QuorumLog$Message", T_M, 12, t_M, rfl, by decide, uw_M, qm_192, k_M, n_M, by decide +kernel, rfl, fun _ => by contradiction⟩
theorem s_Q_beat_1 {l : Launch} {G : qh_G} {h : qh_H} {rest : List Value} {v0 : Value} : qx_Site l G "QuorumLog" c_Q_beat 1 y_Q_isServer [v0] rest h := qx_siteS (As := [v0]) d_Q_beat_1 qm_252 qm_253 qm_1 w_Q_isServer.1 (by decide) p_Q_isServer
theorem s_Q_beat_13 {l : Launch} {G : qh_G} {h : qh_H} {b0 : Nat} {fs rest : List Value} (hb0 : h b0 = some (.inr (6, fs))) : qx_Site l G "QuorumLog" c_Q_beat 13 y_S_leads (.ref b0 :: []) rest h := qx_siteV (As := []) (E := "QuorumLog$Server") (ci := 6) d_Q_beat_13 qm_399 qm_400 qm_401 w_S_leads.1 (by decide) rfl p_S_leads hb0
theorem s_Q_beat_28 {l : Launch} {G : qh_G} {h : qh_H} {b0 : Nat} {fs rest : List Value} {v0 : Value} (hb0 : h b0 = some (.inr (0, fs))) : qx_Site l G "QuorumLog" c_Q_beat 28 y_Q_sendToAll (.ref b0 :: [v0]) rest h := qx_siteV (As := [v0]) (E := "QuorumLog") (ci := 0) d_Q_beat_28 qm_383 qm_385 qs_7 w_Q_sendToAll.1 (by decide) rfl p_Q_sendToAll hb0
theorem s_Q_outcome_5 {l : Launch} {G : qh_G} {h : qh_H} {b0 : Nat} {fs rest : List Value} {v0 : Value} (hb0 : h b0 = some (.inr (4, fs))) : qx_Site l G "QuorumLog" c_Q_outcome 5 y_R_holds (.ref b0 :: [v0]) rest h := qx_siteV (As := [v0]) (E := "QuorumLog$Reads") (ci := 4) d_Q_outcome_5 qm_407 qm_408 qm_409 w_R_holds.1 (by decide) rfl p_R_holds hb0
theorem fl_Q_160 : qx_FL "QuorumLog" 160 4 3 := ⟨"QuorumLog$Reads", T_R, 6, rfl, by decide, uw_R, qm_40⟩
theorem s_Q_value_5 {l : Launch} {G : qh_G} {h : qh_H} {b0 : Nat} {fs rest : List Value} {v0 : Value} (hb0 : h b0 = some (.inr (4, fs))) : qx_Site l G "QuorumLog" c_Q_value 5 y_R_holds (.ref b0 :: [v0]) rest h := qx_siteV (As := [v0]) (E := "QuorumLog$Reads") (ci := 4) d_Q_value_5 qm_407 qm_408 qm_409 w_R_holds.1 (by decide) rfl p_R_holds hb0
theorem fl_Q_164 : qx_FL "QuorumLog" 164 4 4 := ⟨"QuorumLog$Reads", T_R, 6, rfl, by decide, uw_R, qm_42⟩
theorem s_Q_compact_1 {l : Launch} {G : qh_G} {h : qh_H} {rest : List Value} {v0 : Value} : qx_Site l G "QuorumLog" c_Q_compact 1 y_Q_isServer [v0] rest h := qx_siteS (As := [v0]) d_Q_compact_1 qm_252 qm_253 qm_1 w_Q_isServer.1 (by decide) p_Q_isServer
theorem fl_Q_167 : qx_FL "QuorumLog" 167 6 5 := ⟨"QuorumLog$Server", T_S, 13, rfl, by decide, uw_S, qm_120⟩
theorem s_Q_compact_54 {l : Launch} {G : qh_G} {h : qh_H} {b0 : Nat} {fs rest : List Value} {v0 : Value} (hb0 : h b0 = some (.inr (2, fs))) : qx_Site l G "QuorumLog" c_Q_compact 54 y_L_snapshotAt (.ref b0 :: [v0]) rest h := qx_siteV (As := [v0]) (E := "QuorumLog$Log") (ci := 2) d_Q_compact_54 qm_419 qm_420 qm_421 w_L_snapshotAt.1 (by decide) rfl p_L_snapshotAt hb0
theorem s_Q_compact_57 {l : Launch} {G : qh_G} {h : qh_H} {b0 : Nat} {fs rest : List Value} {v0 : Value} (hb0 : h b0 = some (.inr (2, fs))) : qx_Site l G "QuorumLog" c_Q_compact 57 y_L_beginBehind (.ref b0 :: [v0]) rest h := qx_siteV (As := [v0]) (E := "QuorumLog$Log") (ci := 2) d_Q_compact_57 qm_429 qm_430 qm_431 w_L_beginBehind.1 (by decide) rfl p_L_beginBehind hb0
theorem s_Q_crash_1 {l : Launch} {G : qh_G} {h : qh_H} {rest : List Value} {v0 : Value} : qx_Site l G "QuorumLog" c_Q_crash 1 y_Q_isServer [v0] rest h := qx_siteS (As := [v0]) d_Q_crash_1 qm_252 qm_253 qm_1 w_Q_isServer.1 (by decide) p_Q_isServer
theorem s_Q_crash_30 {l : Launch} {G : qh_G} {h : qh_H} {b0 : Nat} {fs rest : List Value} {v0 : Value} (hb0 : h b0 = some (.inr (0, fs))) : qx_Site l G "QuorumLog" c_Q_crash 30 y_Q_follow (.ref b0 :: [v0]) rest h := qx_siteV (As := [v0]) (E := "QuorumLog") (ci := 0) d_Q_crash_30 qm_371 qm_373 qs_6 w_Q_follow.1 (by decide) rfl p_Q_follow hb0
theorem fp_Q_167 : qx_FP "QuorumLog" 167 6 5 (.boolean) false := ⟨"QuorumLog$Server", T_S, 13, t_S, rfl, by decide, uw_S, qm_120, k_S, n_S, by decide +kernel, rfl, fun _ => by contradiction⟩
theorem s_Q_restart_1 {l : Launch} {G : qh_G} {h : qh_H} {rest : List Value} {v0 : Value} : qx_Site l G "QuorumLog" c_Q_restart 1 y_Q_isServer [v0] rest h := qx_siteS (As := [v0]) d_Q_restart_1 qm_252 qm_253 qm_1 w_Q_isServer.1 (by decide) p_Q_isServer
theorem s_Q_deliver_5 {l : Launch} {G : qh_G} {h : qh_H} {b0 : Nat} {fs rest : List Value} {v0 : Value} (hb0 : h b0 = some (.inr (5, fs))) : qx_Site l G "QuorumLog" c_Q_deliver 5 y_W_holds (.ref b0 :: [v0]) rest h := qx_siteV (As := [v0]) (E := "QuorumLog$Row") (ci := 5) d_Q_deliver_5 qm_445 qm_446 qm_447 w_W_holds.1 (by decide) rfl p_W_holds hb0
theorem s_Q_deliver_18 {l : Launch} {G : qh_G} {h : qh_H} {b0 : Nat} {fs rest : List Value} {v0 : Value} (hb0 : h b0 = some (.inr (5, fs))) : qx_Site l G "QuorumLog" c_Q_deliver 18 y_W_take (.ref b0 :: [v0]) rest h := qx_siteV (As := [v0]) (E := "QuorumLog$Row") (ci := 5) d_Q_deliver_18 qm_449 qm_450 qm_451 w_W_take.1 (by decide) rfl p_W_take hb0
theorem fl_Q_192 : qx_FL "QuorumLog" 192 3 3 := ⟨"QuorumLog$Message", T_M, 12, rfl, by decide, uw_M, qm_181⟩
theorem s_Q_deliver_42 {l : Launch} {G : qh_G} {h : qh_H} {b0 : Nat} {fs rest : List Value} {v0 v1 : Value} (hb0 : h b0 = some (.inr (0, fs))) : qx_Site l G "QuorumLog" c_Q_deliver 42 y_Q_come (.ref b0 :: [v0, v1]) rest h := qx_siteV (As := [v0, v1]) (E := "QuorumLog") (ci := 0) d_Q_deliver_42 qm_453 qm_455 qs_9 w_Q_come.1 (by decide) rfl p_Q_come hb0
theorem s_Q_deliver_47 {l : Launch} {G : qh_G} {h : qh_H} {b0 : Nat} {fs rest : List Value} {v0 : Value} (hb0 : h b0 = some (.inr (0, fs))) : qx_Site l G "QuorumLog" c_Q_deliver 47 y_Q_standIfMostSaidYes (.ref b0 :: [v0]) rest h := qx_siteV (As := [v0]) (E := "QuorumLog") (ci := 0) d_Q_deliver_47 qm_305 qm_307 qs_1 w_Q_standIfMostSaidYes.1 (by decide) rfl p_Q_standIfMostSaidYes hb0
theorem s_Q_deliver_52 {l : Launch} {G : qh_G} {h : qh_H} {b0 : Nat} {fs rest : List Value} {v0 : Value} (hb0 : h b0 = some (.inr (0, fs))) : qx_Site l G "QuorumLog" c_Q_deliver 52 y_Q_leadIfMostSaidYes (.ref b0 :: [v0]) rest h := qx_siteV (As := [v0]) (E := "QuorumLog") (ci := 0) d_Q_deliver_52 qm_318 qm_320 qs_2 w_Q_leadIfMostSaidYes.1 (by decide) rfl p_Q_leadIfMostSaidYes hb0
theorem fl_Q_201 : qx_FL "QuorumLog" 201 3 1 := ⟨"QuorumLog$Message", T_M, 12, rfl, by decide, uw_M, qm_177⟩
theorem fl_Q_212 : qx_FL "QuorumLog" 212 3 4 := ⟨"QuorumLog$Message", T_M, 12, rfl, by decide, uw_M, qm_183⟩
theorem s_Q_come_32 {l : Launch} {G : qh_G} {h : qh_H} {b0 : Nat} {fs rest : List Value} {v0 v1 : Value} (hb0 : h b0 = some (.inr (0, fs))) : qx_Site l G "QuorumLog" c_Q_come 32 y_Q_enterTerm (.ref b0 :: [v0, v1]) rest h := qx_siteV (As := [v0, v1]) (E := "QuorumLog") (ci := 0) d_Q_come_32 qm_457 qm_459 qs_10 w_Q_enterTerm.1 (by decide) rfl p_Q_enterTerm hb0
theorem s_Q_come_83 {l : Launch} {G : qh_G} {h : qh_H} {b0 : Nat} {fs rest : List Value} {v0 v1 : Value} (hb0 : h b0 = some (.inr (0, fs))) : qx_Site l G "QuorumLog" c_Q_come 83 y_Q_questionComes (.ref b0 :: [v0, v1]) rest h := qx_siteV (As := [v0, v1]) (E := "QuorumLog") (ci := 0) d_Q_come_83 qm_461 qm_463 qs_11 w_Q_questionComes.1 (by decide) rfl p_Q_questionComes hb0
theorem s_Q_come_92 {l : Launch} {G : qh_G} {h : qh_H} {b0 : Nat} {fs rest : List Value} {v0 v1 : Value} (hb0 : h b0 = some (.inr (0, fs))) : qx_Site l G "QuorumLog" c_Q_come 92 y_Q_answerComes (.ref b0 :: [v0, v1]) rest h := qx_siteV (As := [v0, v1]) (E := "QuorumLog") (ci := 0) d_Q_come_92 qm_470 qm_472 qs_12 w_Q_answerComes.1 (by decide) rfl p_Q_answerComes hb0
theorem s_Q_come_101 {l : Launch} {G : qh_G} {h : qh_H} {b0 : Nat} {fs rest : List Value} {v0 v1 : Value} (hb0 : h b0 = some (.inr (0, fs))) : qx_Site l G "QuorumLog" c_Q_come 101 y_Q_callComes (.ref b0 :: [v0, v1]) rest h := qx_siteV (As := [v0, v1]) (E := "QuorumLog") (ci := 0) d_Q_come_101 qm_474 qm_476 qs_13 w_Q_callComes.1 (by decide) rfl p_Q_callComes hb0
theorem s_Q_come_110 {l : Launch} {G : qh_G} {h : qh_H} {b0 : Nat} {fs rest : List Value} {v0 v1 : Value} (hb0 : h b0 = some (.inr (0, fs))) : qx_Site l G "QuorumLog" c_Q_come 110 y_Q_voteComes (.ref b0 :: [v0, v1]) rest h := qx_siteV (As := [v0, v1]) (E := "QuorumLog") (ci := 0) d_Q_come_110 qm_478 qm_480 qs_14 w_Q_voteComes.1 (by decide) rfl p_Q_voteComes hb0
theorem s_Q_come_119 {l : Launch} {G : qh_G} {h : qh_H} {b0 : Nat} {fs rest : List Value} {v0 v1 : Value} (hb0 : h b0 = some (.inr (0, fs))) : qx_Site l G "QuorumLog" c_Q_come 119 y_Q_appendComes (.ref b0 :: [v0, v1]) rest h := qx_siteV (As := [v0, v1]) (E := "QuorumLog") (ci := 0) d_Q_come_119 qm_482 qm_484 qs_15 w_Q_appendComes.1 (by decide) rfl p_Q_appendComes hb0
theorem s_Q_come_128 {l : Launch} {G : qh_G} {h : qh_H} {b0 : Nat} {fs rest : List Value} {v0 v1 : Value} (hb0 : h b0 = some (.inr (0, fs))) : qx_Site l G "QuorumLog" c_Q_come 128 y_Q_resultComes (.ref b0 :: [v0, v1]) rest h := qx_siteV (As := [v0, v1]) (E := "QuorumLog") (ci := 0) d_Q_come_128 qm_513 qm_515 qs_18 w_Q_resultComes.1 (by decide) rfl p_Q_resultComes hb0
theorem s_Q_come_137 {l : Launch} {G : qh_G} {h : qh_H} {b0 : Nat} {fs rest : List Value} {v0 v1 : Value} (hb0 : h b0 = some (.inr (0, fs))) : qx_Site l G "QuorumLog" c_Q_come 137 y_Q_installComes (.ref b0 :: [v0, v1]) rest h := qx_siteV (As := [v0, v1]) (E := "QuorumLog") (ci := 0) d_Q_come_137 qm_531 qm_533 qs_20 w_Q_installComes.1 (by decide) rfl p_Q_installComes hb0
theorem s_Q_enterTerm_12 {l : Launch} {G : qh_G} {h : qh_H} {b0 : Nat} {fs rest : List Value} {v0 : Value} (hb0 : h b0 = some (.inr (0, fs))) : qx_Site l G "QuorumLog" c_Q_enterTerm 12 y_Q_follow (.ref b0 :: [v0]) rest h := qx_siteV (As := [v0]) (E := "QuorumLog") (ci := 0) d_Q_enterTerm_12 qm_371 qm_373 qs_6 w_Q_follow.1 (by decide) rfl p_Q_follow hb0
theorem fl_Q_47 : qx_FL "QuorumLog" 47 6 6 := ⟨"QuorumLog$Server", T_S, 13, rfl, by decide, uw_S, qm_121⟩
theorem s_Q_questionComes_23 {l : Launch} {G : qh_G} {h : qh_H} {b0 : Nat} {fs rest : List Value} {v0 : Value} (hb0 : h b0 = some (.inr (2, fs))) : qx_Site l G "QuorumLog" c_Q_questionComes 23 y_L_isBehindOf (.ref b0 :: [v0]) rest h := qx_siteV (As := [v0]) (E := "QuorumLog$Log") (ci := 2) d_Q_questionComes_23 qm_465 qm_466 qm_467 w_L_isBehindOf.1 (by decide) rfl p_L_isBehindOf hb0
theorem fl_Q_209 : qx_FL "QuorumLog" 209 3 2 := ⟨"QuorumLog$Message", T_M, 12, rfl, by decide, uw_M, qm_179⟩
theorem s_Q_questionComes_63 {l : Launch} {G : qh_G} {h : qh_H} {b0 : Nat} {fs rest : List Value} {v0 v1 v2 v3 : Value} (hb0 : h b0 = some (.inr (5, fs))) : qx_Site l G "QuorumLog" c_Q_questionComes 63 y_W_send (.ref b0 :: [v0, v1, v2, v3]) rest h := qx_siteV (As := [v0, v1, v2, v3]) (E := "QuorumLog$Row") (ci := 5) d_Q_questionComes_63 qm_288 qm_289 qm_290 w_W_send.1 (by decide) rfl p_W_send hb0
theorem fp_Q_217 : qx_FP "QuorumLog" 217 3 10 (.boolean) false := ⟨"QuorumLog$Message", T_M, 12, t_M, rfl, by decide, uw_M, qm_198, k_M, n_M, by decide +kernel, rfl, fun _ => by contradiction⟩
theorem fl_Q_217 : qx_FL "QuorumLog" 217 3 10 := ⟨"QuorumLog$Message", T_M, 12, rfl, by decide, uw_M, qm_198⟩
theorem s_Q_answerComes_63 {l : Launch} {G : qh_G} {h : qh_H} {b0 : Nat} {fs rest : List Value} {v0 v1 : Value} (hb0 : h b0 = some (.inr (0, fs))) : qx_Site l G "QuorumLog" c_Q_answerComes 63 y_Q_enterTerm (.ref b0 :: [v0, v1]) rest h := qx_siteV (As := [v0, v1]) (E := "QuorumLog") (ci := 0) d_Q_answerComes_63 qm_457 qm_459 qs_10 w_Q_enterTerm.1 (by decide) rfl p_Q_enterTerm hb0
theorem fl_Q_220 : qx_FL "QuorumLog" 220 6 8 := ⟨"QuorumLog$Server", T_S, 13, rfl, by decide, uw_S, qm_125⟩
theorem s_Q_callComes_45 {l : Launch} {G : qh_G} {h : qh_H} {b0 : Nat} {fs rest : List Value} {v0 : Value} (hb0 : h b0 = some (.inr (2, fs))) : qx_Site l G "QuorumLog" c_Q_callComes 45 y_L_isBehindOf (.ref b0 :: [v0]) rest h := qx_siteV (As := [v0]) (E := "QuorumLog$Log") (ci := 2) d_Q_callComes_45 qm_465 qm_466 qm_467 w_L_isBehindOf.1 (by decide) rfl p_L_isBehindOf hb0
theorem s_Q_callComes_88 {l : Launch} {G : qh_G} {h : qh_H} {b0 : Nat} {fs rest : List Value} {v0 v1 v2 v3 : Value} (hb0 : h b0 = some (.inr (5, fs))) : qx_Site l G "QuorumLog" c_Q_callComes 88 y_W_send (.ref b0 :: [v0, v1, v2, v3]) rest h := qx_siteV (As := [v0, v1, v2, v3]) (E := "QuorumLog$Row") (ci := 5) d_Q_callComes_88 qm_288 qm_289 qm_290 w_W_send.1 (by decide) rfl p_W_send hb0
theorem s_Q_appendComes_20 {l : Launch} {G : qh_G} {h : qh_H} {b0 : Nat} {fs rest : List Value} {v0 v1 v2 v3 v4 : Value} (hb0 : h b0 = some (.inr (0, fs))) : qx_Site l G "QuorumLog" c_Q_appendComes 20 y_Q_sendResult (.ref b0 :: [v0, v1, v2, v3, v4]) rest h := qx_siteV (As := [v0, v1, v2, v3, v4]) (E := "QuorumLog") (ci := 0) d_Q_appendComes_20 qm_486 qm_488 qs_16 w_Q_sendResult.1 (by decide) rfl p_Q_sendResult hb0
theorem s_Q_appendComes_26 {l : Launch} {G : qh_G} {h : qh_H} {b0 : Nat} {fs rest : List Value} {v0 : Value} (hb0 : h b0 = some (.inr (0, fs))) : qx_Site l G "QuorumLog" c_Q_appendComes 26 y_Q_follow (.ref b0 :: [v0]) rest h := qx_siteV (As := [v0]) (E := "QuorumLog") (ci := 0) d_Q_appendComes_26 qm_371 qm_373 qs_6 w_Q_follow.1 (by decide) rfl p_Q_follow hb0
theorem fl_Q_213 : qx_FL "QuorumLog" 213 3 5 := ⟨"QuorumLog$Message", T_M, 12, rfl, by decide, uw_M, qm_186⟩
theorem fl_Q_261 : qx_FL "QuorumLog" 261 3 6 := ⟨"QuorumLog$Message", T_M, 12, rfl, by decide, uw_M, qm_189⟩
theorem s_Q_appendComes_46 {l : Launch} {G : qh_G} {h : qh_H} {b0 : Nat} {fs rest : List Value} {v0 v1 : Value} (hb0 : h b0 = some (.inr (2, fs))) : qx_Site l G "QuorumLog" c_Q_appendComes 46 y_L_fitsBehind (.ref b0 :: [v0, v1]) rest h := qx_siteV (As := [v0, v1]) (E := "QuorumLog$Log") (ci := 2) d_Q_appendComes_46 qm_490 qm_491 qm_492 w_L_fitsBehind.1 (by decide) rfl p_L_fitsBehind hb0
theorem s_Q_appendComes_57 {l : Launch} {G : qh_G} {h : qh_H} {b0 : Nat} {fs rest : List Value} (hb0 : h b0 = some (.inr (2, fs))) : qx_Site l G "QuorumLog" c_Q_appendComes 57 y_L_last (.ref b0 :: []) rest h := qx_siteV (As := []) (E := "QuorumLog$Log") (ci := 2) d_Q_appendComes_57 qm_296 qm_264 qm_265 w_L_last.1 (by decide) rfl p_L_last hb0
theorem s_Q_appendComes_66 {l : Launch} {G : qh_G} {h : qh_H} {rest : List Value} {v0 v1 : Value} : qx_Site l G "QuorumLog" c_Q_appendComes 66 y_H_min [v0, v1] rest h := qx_siteS (As := [v0, v1]) d_Q_appendComes_66 qm_494 qm_495 qm_17 w_H_min.1 (by decide) p_H_min
theorem s_Q_appendComes_69 {l : Launch} {G : qh_G} {h : qh_H} {rest : List Value} {v0 v1 : Value} : qx_Site l G "QuorumLog" c_Q_appendComes 69 y_H_max [v0, v1] rest h := qx_siteS (As := [v0, v1]) d_Q_appendComes_69 qm_497 qm_498 qm_17 w_H_max.1 (by decide) p_H_max
theorem fl_Q_219 : qx_FL "QuorumLog" 219 3 9 := ⟨"QuorumLog$Message", T_M, 12, rfl, by decide, uw_M, qm_196⟩
theorem s_Q_appendComes_85 {l : Launch} {G : qh_G} {h : qh_H} {b0 : Nat} {fs rest : List Value} {v0 v1 v2 v3 v4 : Value} (hb0 : h b0 = some (.inr (0, fs))) : qx_Site l G "QuorumLog" c_Q_appendComes 85 y_Q_sendResult (.ref b0 :: [v0, v1, v2, v3, v4]) rest h := qx_siteV (As := [v0, v1, v2, v3, v4]) (E := "QuorumLog") (ci := 0) d_Q_appendComes_85 qm_486 qm_488 qs_16 w_Q_sendResult.1 (by decide) rfl p_Q_sendResult hb0
theorem s_Q_appendComes_94 {l : Launch} {G : qh_G} {h : qh_H} {b0 : Nat} {fs rest : List Value} {v0 : Value} (hb0 : h b0 = some (.inr (2, fs))) : qx_Site l G "QuorumLog" c_Q_appendComes 94 y_L_takeOver (.ref b0 :: [v0]) rest h := qx_siteV (As := [v0]) (E := "QuorumLog$Log") (ci := 2) d_Q_appendComes_94 qm_500 qm_501 qm_502 w_L_takeOver.1 (by decide) rfl p_L_takeOver hb0
theorem fl_Q_294 : qx_FL "QuorumLog" 294 3 8 := ⟨"QuorumLog$Message", T_M, 12, rfl, by decide, uw_M, qm_194⟩
theorem s_Q_appendComes_108 {l : Launch} {G : qh_G} {h : qh_H} {rest : List Value} {v0 v1 : Value} : qx_Site l G "QuorumLog" c_Q_appendComes 108 y_H_min [v0, v1] rest h := qx_siteS (As := [v0, v1]) d_Q_appendComes_108 qm_494 qm_495 qm_17 w_H_min.1 (by decide) p_H_min
theorem s_Q_appendComes_111 {l : Launch} {G : qh_G} {h : qh_H} {rest : List Value} {v0 v1 : Value} : qx_Site l G "QuorumLog" c_Q_appendComes 111 y_H_max [v0, v1] rest h := qx_siteS (As := [v0, v1]) d_Q_appendComes_111 qm_497 qm_498 qm_17 w_H_max.1 (by decide) p_H_max
theorem s_Q_appendComes_129 {l : Launch} {G : qh_G} {h : qh_H} {b0 : Nat} {fs rest : List Value} {v0 v1 v2 v3 v4 : Value} (hb0 : h b0 = some (.inr (0, fs))) : qx_Site l G "QuorumLog" c_Q_appendComes 129 y_Q_sendResult (.ref b0 :: [v0, v1, v2, v3, v4]) rest h := qx_siteV (As := [v0, v1, v2, v3, v4]) (E := "QuorumLog") (ci := 0) d_Q_appendComes_129 qm_486 qm_488 qs_16 w_Q_sendResult.1 (by decide) rfl p_Q_sendResult hb0
theorem s_Q_sendResult_14 {l : Launch} {G : qh_G} {h : qh_H} {b0 : Nat} {fs rest : List Value} {v0 v1 v2 v3 : Value} (hb0 : h b0 = some (.inr (5, fs))) : qx_Site l G "QuorumLog" c_Q_sendResult 14 y_W_send (.ref b0 :: [v0, v1, v2, v3]) rest h := qx_siteV (As := [v0, v1, v2, v3]) (E := "QuorumLog$Row") (ci := 5) d_Q_sendResult_14 qm_288 qm_289 qm_290 w_W_send.1 (by decide) rfl p_W_send hb0
theorem s_Q_resultComes_40 {l : Launch} {G : qh_G} {h : qh_H} {rest : List Value} {v0 v1 : Value} : qx_Site l G "QuorumLog" c_Q_resultComes 40 y_H_max [v0, v1] rest h := qx_siteS (As := [v0, v1]) d_Q_resultComes_40 qm_497 qm_498 qm_17 w_H_max.1 (by decide) p_H_max
theorem s_Q_resultComes_66 {l : Launch} {G : qh_G} {h : qh_H} {rest : List Value} {v0 v1 : Value} : qx_Site l G "QuorumLog" c_Q_resultComes 66 y_H_max [v0, v1] rest h := qx_siteS (As := [v0, v1]) d_Q_resultComes_66 qm_497 qm_498 qm_17 w_H_max.1 (by decide) p_H_max
theorem s_Q_resultComes_86 {l : Launch} {G : qh_G} {h : qh_H} {b0 : Nat} {fs rest : List Value} {v0 : Value} (hb0 : h b0 = some (.inr (0, fs))) : qx_Site l G "QuorumLog" c_Q_resultComes 86 y_Q_lookAtCommit (.ref b0 :: [v0]) rest h := qx_siteV (As := [v0]) (E := "QuorumLog") (ci := 0) d_Q_resultComes_86 qm_357 qm_359 qs_4 w_Q_lookAtCommit.1 (by decide) rfl p_Q_lookAtCommit hb0
theorem s_Q_resultComes_112 {l : Launch} {G : qh_G} {h : qh_H} {rest : List Value} {v0 v1 : Value} : qx_Site l G "QuorumLog" c_Q_resultComes 112 y_H_min [v0, v1] rest h := qx_siteS (As := [v0, v1]) d_Q_resultComes_112 qm_494 qm_495 qm_17 w_H_min.1 (by decide) p_H_min
theorem s_Q_resultComes_115 {l : Launch} {G : qh_G} {h : qh_H} {rest : List Value} {v0 v1 : Value} : qx_Site l G "QuorumLog" c_Q_resultComes 115 y_H_max [v0, v1] rest h := qx_siteS (As := [v0, v1]) d_Q_resultComes_115 qm_497 qm_498 qm_17 w_H_max.1 (by decide) p_H_max
theorem s_Q_resultComes_136 {l : Launch} {G : qh_G} {h : qh_H} {b0 : Nat} {fs rest : List Value} (hb0 : h b0 = some (.inr (2, fs))) : qx_Site l G "QuorumLog" c_Q_resultComes 136 y_L_last (.ref b0 :: []) rest h := qx_siteV (As := []) (E := "QuorumLog$Log") (ci := 2) d_Q_resultComes_136 qm_296 qm_264 qm_265 w_L_last.1 (by decide) rfl p_L_last hb0
theorem s_Q_resultComes_166 {l : Launch} {G : qh_G} {h : qh_H} {b0 : Nat} {fs rest : List Value} (hb0 : h b0 = some (.inr (2, fs))) : qx_Site l G "QuorumLog" c_Q_resultComes 166 y_L_configuration (.ref b0 :: []) rest h := qx_siteV (As := []) (E := "QuorumLog$Log") (ci := 2) d_Q_resultComes_166 qm_286 qm_260 qm_261 w_L_configuration.1 (by decide) rfl p_L_configuration hb0
theorem s_Q_resultComes_170 {l : Launch} {G : qh_G} {h : qh_H} {rest : List Value} {v0 v1 : Value} : qx_Site l G "QuorumLog" c_Q_resultComes 170 y_Q_isIn [v0, v1] rest h := qx_siteS (As := [v0, v1]) d_Q_resultComes_170 qm_287 qm_280 qm_1 w_Q_isIn.1 (by decide) p_Q_isIn
theorem s_Q_resultComes_179 {l : Launch} {G : qh_G} {h : qh_H} {b0 : Nat} {fs rest : List Value} {v0 v1 : Value} (hb0 : h b0 = some (.inr (0, fs))) : qx_Site l G "QuorumLog" c_Q_resultComes 179 y_Q_sendTo (.ref b0 :: [v0, v1]) rest h := qx_siteV (As := [v0, v1]) (E := "QuorumLog") (ci := 0) d_Q_resultComes_179 qm_387 qm_389 qs_8 w_Q_sendTo.1 (by decide) rfl p_Q_sendTo hb0
theorem s_Q_resultComes_184 {l : Launch} {G : qh_G} {h : qh_H} {b0 : Nat} {fs rest : List Value} {v0 : Value} (hb0 : h b0 = some (.inr (0, fs))) : qx_Site l G "QuorumLog" c_Q_resultComes 184 y_Q_lookAtReads (.ref b0 :: [v0]) rest h := qx_siteV (As := [v0]) (E := "QuorumLog") (ci := 0) d_Q_resultComes_184 qm_517 qm_519 qs_19 w_Q_lookAtReads.1 (by decide) rfl p_Q_lookAtReads hb0
theorem s_Q_lookAtReads_4 {l : Launch} {G : qh_G} {h : qh_H} {b0 : Nat} {fs rest : List Value} (hb0 : h b0 = some (.inr (2, fs))) : qx_Site l G "QuorumLog" c_Q_lookAtReads 4 y_L_configuration (.ref b0 :: []) rest h := qx_siteV (As := []) (E := "QuorumLog$Log") (ci := 2) d_Q_lookAtReads_4 qm_286 qm_260 qm_261 w_L_configuration.1 (by decide) rfl p_L_configuration hb0
theorem fl_Q_144 : qx_FL "QuorumLog" 144 4 5 := ⟨"QuorumLog$Reads", T_R, 6, rfl, by decide, uw_R, qm_44⟩
theorem s_Q_lookAtReads_30 {l : Launch} {G : qh_G} {h : qh_H} {b0 : Nat} {fs rest : List Value} {v0 v1 : Value} (hb0 : h b0 = some (.inr (4, fs))) : qx_Site l G "QuorumLog" c_Q_lookAtReads 30 y_R_isKeptBy (.ref b0 :: [v0, v1]) rest h := qx_siteV (As := [v0, v1]) (E := "QuorumLog$Reads") (ci := 4) d_Q_lookAtReads_30 qm_521 qm_380 qm_381 w_R_isKeptBy.1 (by decide) rfl p_R_isKeptBy hb0
theorem fl_Q_306 : qx_FL "QuorumLog" 306 4 2 := ⟨"QuorumLog$Reads", T_R, 6, rfl, by decide, uw_R, qm_38⟩
theorem s_Q_lookAtReads_46 {l : Launch} {G : qh_G} {h : qh_H} {b0 : Nat} {fs rest : List Value} {v0 : Value} (hb0 : h b0 = some (.inr (6, fs))) : qx_Site l G "QuorumLog" c_Q_lookAtReads 46 y_S_confirmersOf (.ref b0 :: [v0]) rest h := qx_siteV (As := [v0]) (E := "QuorumLog$Server") (ci := 6) d_Q_lookAtReads_46 qm_522 qm_523 qm_524 w_S_confirmersOf.1 (by decide) rfl p_S_confirmersOf hb0
theorem s_Q_lookAtReads_50 {l : Launch} {G : qh_G} {h : qh_H} {rest : List Value} {v0 v1 : Value} : qx_Site l G "QuorumLog" c_Q_lookAtReads 50 y_Q_areMost [v0, v1] rest h := qx_siteS (As := [v0, v1]) d_Q_lookAtReads_50 qm_309 qm_310 qm_1 w_Q_areMost.1 (by decide) p_Q_areMost
theorem fl_Q_312 : qx_FL "QuorumLog" 312 4 1 := ⟨"QuorumLog$Reads", T_R, 6, rfl, by decide, uw_R, qm_36⟩
theorem s_Q_lookAtReads_84 {l : Launch} {G : qh_G} {h : qh_H} {b0 : Nat} {fs rest : List Value} {v0 : Value} (hb0 : h b0 = some (.inr (6, fs))) : qx_Site l G "QuorumLog" c_Q_lookAtReads 84 y_S_storedNow (.ref b0 :: [v0]) rest h := qx_siteV (As := [v0]) (E := "QuorumLog$Server") (ci := 6) d_Q_lookAtReads_84 qm_526 qm_527 qm_528 w_S_storedNow.1 (by decide) rfl p_S_storedNow hb0
theorem s_Q_installComes_20 {l : Launch} {G : qh_G} {h : qh_H} {b0 : Nat} {fs rest : List Value} {v0 v1 v2 v3 v4 : Value} (hb0 : h b0 = some (.inr (0, fs))) : qx_Site l G "QuorumLog" c_Q_installComes 20 y_Q_sendResult (.ref b0 :: [v0, v1, v2, v3, v4]) rest h := qx_siteV (As := [v0, v1, v2, v3, v4]) (E := "QuorumLog") (ci := 0) d_Q_installComes_20 qm_486 qm_488 qs_16 w_Q_sendResult.1 (by decide) rfl p_Q_sendResult hb0
theorem s_Q_installComes_26 {l : Launch} {G : qh_G} {h : qh_H} {b0 : Nat} {fs rest : List Value} {v0 : Value} (hb0 : h b0 = some (.inr (0, fs))) : qx_Site l G "QuorumLog" c_Q_installComes 26 y_Q_follow (.ref b0 :: [v0]) rest h := qx_siteV (As := [v0]) (E := "QuorumLog") (ci := 0) d_Q_installComes_26 qm_371 qm_373 qs_6 w_Q_follow.1 (by decide) rfl p_Q_follow hb0
theorem fl_Q_293 : qx_FL "QuorumLog" 293 3 11 := ⟨"QuorumLog$Message", T_M, 12, rfl, by decide, uw_M, qm_200⟩
theorem s_Q_installComes_53 {l : Launch} {G : qh_G} {h : qh_H} {b0 : Nat} {fs rest : List Value} {v0 : Value} (hb0 : h b0 = some (.inr (2, fs))) : qx_Site l G "QuorumLog" c_Q_installComes 53 y_L_beginBehind (.ref b0 :: [v0]) rest h := qx_siteV (As := [v0]) (E := "QuorumLog$Log") (ci := 2) d_Q_installComes_53 qm_429 qm_430 qm_431 w_L_beginBehind.1 (by decide) rfl p_L_beginBehind hb0
theorem s_Q_installComes_79 {l : Launch} {G : qh_G} {h : qh_H} {b0 : Nat} {fs rest : List Value} {v0 v1 v2 v3 v4 : Value} (hb0 : h b0 = some (.inr (0, fs))) : qx_Site l G "QuorumLog" c_Q_installComes 79 y_Q_sendResult (.ref b0 :: [v0, v1, v2, v3, v4]) rest h := qx_siteV (As := [v0, v1, v2, v3, v4]) (E := "QuorumLog") (ci := 0) d_Q_installComes_79 qm_486 qm_488 qs_16 w_Q_sendResult.1 (by decide) rfl p_Q_sendResult hb0
theorem s_Q_lose_5 {l : Launch} {G : qh_G} {h : qh_H} {b0 : Nat} {fs rest : List Value} {v0 : Value} (hb0 : h b0 = some (.inr (5, fs))) : qx_Site l G "QuorumLog" c_Q_lose 5 y_W_holds (.ref b0 :: [v0]) rest h := qx_siteV (As := [v0]) (E := "QuorumLog$Row") (ci := 5) d_Q_lose_5 qm_445 qm_446 qm_447 w_W_holds.1 (by decide) rfl p_W_holds hb0
theorem s_Q_lose_18 {l : Launch} {G : qh_G} {h : qh_H} {b0 : Nat} {fs rest : List Value} {v0 : Value} (hb0 : h b0 = some (.inr (5, fs))) : qx_Site l G "QuorumLog" c_Q_lose 18 y_W_take (.ref b0 :: [v0]) rest h := qx_siteV (As := [v0]) (E := "QuorumLog$Row") (ci := 5) d_Q_lose_18 qm_449 qm_450 qm_451 w_W_take.1 (by decide) rfl p_W_take hb0
theorem fl_Q_204 : qx_FL "QuorumLog" 204 5 2 := ⟨"QuorumLog$Row", T_W, 3, rfl, by decide, uw_W, qm_230⟩
theorem s_Q_message_5 {l : Launch} {G : qh_G} {h : qh_H} {b0 : Nat} {fs rest : List Value} {v0 : Value} (hb0 : h b0 = some (.inr (5, fs))) : qx_Site l G "QuorumLog" c_Q_message 5 y_W_holds (.ref b0 :: [v0]) rest h := qx_siteV (As := [v0]) (E := "QuorumLog$Row") (ci := 5) d_Q_message_5 qm_445 qm_446 qm_447 w_W_holds.1 (by decide) rfl p_W_holds hb0
theorem fl_Q_205 : qx_FL "QuorumLog" 205 5 0 := ⟨"QuorumLog$Row", T_W, 3, rfl, by decide, uw_W, qm_227⟩
theorem fl_Q_214 : qx_FL "QuorumLog" 214 3 7 := ⟨"QuorumLog$Message", T_M, 12, rfl, by decide, uw_M, qm_192⟩
theorem s_Q_state_1 {l : Launch} {G : qh_G} {h : qh_H} {rest : List Value} {v0 : Value} : qx_Site l G "QuorumLog" c_Q_state 1 y_Q_isServer [v0] rest h := qx_siteS (As := [v0]) d_Q_state_1 qm_252 qm_253 qm_1 w_Q_isServer.1 (by decide) p_Q_isServer
theorem s_Q_state_103 {l : Launch} {G : qh_G} {h : qh_H} {b0 : Nat} {fs rest : List Value} (hb0 : h b0 = some (.inr (2, fs))) : qx_Site l G "QuorumLog" c_Q_state 103 y_L_last (.ref b0 :: []) rest h := qx_siteV (As := []) (E := "QuorumLog$Log") (ci := 2) d_Q_state_103 qm_296 qm_264 qm_265 w_L_last.1 (by decide) rfl p_L_last hb0
theorem s_Q_state_111 {l : Launch} {G : qh_G} {h : qh_H} {b0 : Nat} {fs rest : List Value} (hb0 : h b0 = some (.inr (2, fs))) : qx_Site l G "QuorumLog" c_Q_state 111 y_L_configuration (.ref b0 :: []) rest h := qx_siteV (As := []) (E := "QuorumLog$Log") (ci := 2) d_Q_state_111 qm_286 qm_260 qm_261 w_L_configuration.1 (by decide) rfl p_L_configuration hb0
theorem s_Q_entry_1 {l : Launch} {G : qh_G} {h : qh_H} {rest : List Value} {v0 : Value} : qx_Site l G "QuorumLog" c_Q_entry 1 y_Q_isServer [v0] rest h := qx_siteS (As := [v0]) d_Q_entry_1 qm_252 qm_253 qm_1 w_Q_isServer.1 (by decide) p_Q_isServer
theorem s_Q_entry_17 {l : Launch} {G : qh_G} {h : qh_H} {b0 : Nat} {fs rest : List Value} {v0 : Value} (hb0 : h b0 = some (.inr (2, fs))) : qx_Site l G "QuorumLog" c_Q_entry 17 y_L_find (.ref b0 :: [v0]) rest h := qx_siteV (As := [v0]) (E := "QuorumLog$Log") (ci := 2) d_Q_entry_17 qm_555 qm_272 qm_273 w_L_find.1 (by decide) rfl p_L_find hb0
theorem fl_Q_227 : qx_FL "QuorumLog" 227 1 0 := ⟨"QuorumLog$Entry", T_E, 4, rfl, by decide, uw_E, qm_330⟩
theorem fl_Q_228 : qx_FL "QuorumLog" 228 1 1 := ⟨"QuorumLog$Entry", T_E, 4, rfl, by decide, uw_E, qm_333⟩
theorem fl_Q_231 : qx_FL "QuorumLog" 231 1 2 := ⟨"QuorumLog$Entry", T_E, 4, rfl, by decide, uw_E, qm_336⟩
theorem fl_Q_234 : qx_FL "QuorumLog" 234 1 3 := ⟨"QuorumLog$Entry", T_E, 4, rfl, by decide, uw_E, qm_339⟩
theorem s_Q_stored_1 {l : Launch} {G : qh_G} {h : qh_H} {rest : List Value} {v0 : Value} : qx_Site l G "QuorumLog" c_Q_stored 1 y_Q_isServer [v0] rest h := qx_siteS (As := [v0]) d_Q_stored_1 qm_252 qm_253 qm_1 w_Q_isServer.1 (by decide) p_Q_isServer
theorem s_Q_stored_8 {l : Launch} {G : qh_G} {h : qh_H} {rest : List Value} {v0 : Value} : qx_Site l G "QuorumLog" c_Q_stored 8 y_Q_isKey [v0] rest h := qx_siteS (As := [v0]) d_Q_stored_8 qm_560 qm_561 qm_1 w_Q_isKey.1 (by decide) p_Q_isKey
theorem s_Q_stored_23 {l : Launch} {G : qh_G} {h : qh_H} {b0 : Nat} {fs rest : List Value} {v0 : Value} (hb0 : h b0 = some (.inr (6, fs))) : qx_Site l G "QuorumLog" c_Q_stored 23 y_S_storedNow (.ref b0 :: [v0]) rest h := qx_siteV (As := [v0]) (E := "QuorumLog$Server") (ci := 6) d_Q_stored_23 qm_526 qm_527 qm_528 w_S_storedNow.1 (by decide) rfl p_S_storedNow hb0
theorem s_Q_put_3 {l : Launch} {G : qh_G} {h : qh_H} {b0 : Nat} {fs rest : List Value} {v0 v1 : Value} (hb0 : h b0 = some (.inr (0, fs))) : qx_Site l G "QuorumLog" c_Q_put 3 y_Q_leaderFor (.ref b0 :: [v0, v1]) rest h := qx_siteV (As := [v0, v1]) (E := "QuorumLog") (ci := 0) d_Q_put_3 qm_576 qm_578 qs_21 w_Q_leaderFor.1 (by decide) rfl p_Q_leaderFor hb0
theorem fl_Q_89 : qx_FL "QuorumLog" 89 2 2 := ⟨"QuorumLog$Log", T_L, 3, rfl, by decide, uw_L, qm_101⟩
theorem s_Q_put_46 {l : Launch} {G : qh_G} {h : qh_H} {b0 : Nat} {rest : List Value} {v0 v1 v2 v3 : Value} : qx_Site l G "QuorumLog" c_Q_put 46 y_E_init (.ref b0 :: [v0, v1, v2, v3]) rest h := qx_siteI (As := [v0, v1, v2, v3]) d_Q_put_46 rfl qm_324 qm_325 w_E_init.1 (by decide) p_E_init
theorem s_Q_put_49 {l : Launch} {G : qh_G} {h : qh_H} {b0 : Nat} {fs rest : List Value} {v0 v1 : Value} (hb0 : h b0 = some (.inr (0, fs))) : qx_Site l G "QuorumLog" c_Q_put 49 y_Q_append (.ref b0 :: [v0, v1]) rest h := qx_siteV (As := [v0, v1]) (E := "QuorumLog") (ci := 0) d_Q_put_49 qm_349 qm_351 qs_3 w_Q_append.1 (by decide) rfl p_Q_append hb0
theorem s_Q_leaderFor_1 {l : Launch} {G : qh_G} {h : qh_H} {rest : List Value} {v0 : Value} : qx_Site l G "QuorumLog" c_Q_leaderFor 1 y_Q_isServer [v0] rest h := qx_siteS (As := [v0]) d_Q_leaderFor_1 qm_252 qm_253 qm_1 w_Q_isServer.1 (by decide) p_Q_isServer
theorem s_Q_leaderFor_8 {l : Launch} {G : qh_G} {h : qh_H} {rest : List Value} {v0 : Value} : qx_Site l G "QuorumLog" c_Q_leaderFor 8 y_Q_isKey [v0] rest h := qx_siteS (As := [v0]) d_Q_leaderFor_8 qm_560 qm_561 qm_1 w_Q_isKey.1 (by decide) p_Q_isKey
theorem s_Q_leaderFor_30 {l : Launch} {G : qh_G} {h : qh_H} {b0 : Nat} {fs rest : List Value} (hb0 : h b0 = some (.inr (6, fs))) : qx_Site l G "QuorumLog" c_Q_leaderFor 30 y_S_leads (.ref b0 :: []) rest h := qx_siteV (As := []) (E := "QuorumLog$Server") (ci := 6) d_Q_leaderFor_30 qm_399 qm_400 qm_401 w_S_leads.1 (by decide) rfl p_S_leads hb0
theorem s_Q_change_1 {l : Launch} {G : qh_G} {h : qh_H} {rest : List Value} {v0 : Value} : qx_Site l G "QuorumLog" c_Q_change 1 y_Q_isServer [v0] rest h := qx_siteS (As := [v0]) d_Q_change_1 qm_252 qm_253 qm_1 w_Q_isServer.1 (by decide) p_Q_isServer
theorem s_Q_change_8 {l : Launch} {G : qh_G} {h : qh_H} {rest : List Value} {v0 : Value} : qx_Site l G "QuorumLog" c_Q_change 8 y_Q_isServer [v0] rest h := qx_siteS (As := [v0]) d_Q_change_8 qm_252 qm_253 qm_1 w_Q_isServer.1 (by decide) p_Q_isServer
theorem s_Q_change_41 {l : Launch} {G : qh_G} {h : qh_H} {b0 : Nat} {fs rest : List Value} (hb0 : h b0 = some (.inr (2, fs))) : qx_Site l G "QuorumLog" c_Q_change 41 y_L_configuration (.ref b0 :: []) rest h := qx_siteV (As := []) (E := "QuorumLog$Log") (ci := 2) d_Q_change_41 qm_286 qm_260 qm_261 w_L_configuration.1 (by decide) rfl p_L_configuration hb0
theorem s_Q_change_93 {l : Launch} {G : qh_G} {h : qh_H} {b0 : Nat} {fs rest : List Value} (hb0 : h b0 = some (.inr (6, fs))) : qx_Site l G "QuorumLog" c_Q_change 93 y_S_leads (.ref b0 :: []) rest h := qx_siteV (As := []) (E := "QuorumLog$Server") (ci := 6) d_Q_change_93 qm_399 qm_400 qm_401 w_S_leads.1 (by decide) rfl p_S_leads hb0
theorem s_Q_change_123 {l : Launch} {G : qh_G} {h : qh_H} {b0 : Nat} {fs rest : List Value} (hb0 : h b0 = some (.inr (2, fs))) : qx_Site l G "QuorumLog" c_Q_change 123 y_L_last (.ref b0 :: []) rest h := qx_siteV (As := []) (E := "QuorumLog$Log") (ci := 2) d_Q_change_123 qm_296 qm_264 qm_265 w_L_last.1 (by decide) rfl p_L_last hb0
theorem s_Q_change_126 {l : Launch} {G : qh_G} {h : qh_H} {b0 : Nat} {fs rest : List Value} {v0 : Value} (hb0 : h b0 = some (.inr (2, fs))) : qx_Site l G "QuorumLog" c_Q_change 126 y_L_latestMembersUpTo (.ref b0 :: [v0]) rest h := qx_siteV (As := [v0]) (E := "QuorumLog$Log") (ci := 2) d_Q_change_126 qm_370 qm_268 qm_269 w_L_latestMembersUpTo.1 (by decide) rfl p_L_latestMembersUpTo hb0
theorem s_Q_change_139 {l : Launch} {G : qh_G} {h : qh_H} {b0 : Nat} {fs rest : List Value} (hb0 : h b0 = some (.inr (6, fs))) : qx_Site l G "QuorumLog" c_Q_change 139 y_S_hasCommitOfItsTerm (.ref b0 :: []) rest h := qx_siteV (As := []) (E := "QuorumLog$Server") (ci := 6) d_Q_change_139 qm_689 qm_690 qm_691 w_S_hasCommitOfItsTerm.1 (by decide) rfl p_S_hasCommitOfItsTerm hb0
theorem s_Q_change_171 {l : Launch} {G : qh_G} {h : qh_H} {b0 : Nat} {rest : List Value} {v0 v1 v2 v3 : Value} : qx_Site l G "QuorumLog" c_Q_change 171 y_E_init (.ref b0 :: [v0, v1, v2, v3]) rest h := qx_siteI (As := [v0, v1, v2, v3]) d_Q_change_171 rfl qm_324 qm_325 w_E_init.1 (by decide) p_E_init
theorem s_Q_change_174 {l : Launch} {G : qh_G} {h : qh_H} {b0 : Nat} {fs rest : List Value} {v0 v1 : Value} (hb0 : h b0 = some (.inr (0, fs))) : qx_Site l G "QuorumLog" c_Q_change 174 y_Q_append (.ref b0 :: [v0, v1]) rest h := qx_siteV (As := [v0, v1]) (E := "QuorumLog") (ci := 0) d_Q_change_174 qm_349 qm_351 qs_3 w_Q_append.1 (by decide) rfl p_Q_append hb0
theorem s_Q_read_3 {l : Launch} {G : qh_G} {h : qh_H} {b0 : Nat} {fs rest : List Value} {v0 v1 : Value} (hb0 : h b0 = some (.inr (0, fs))) : qx_Site l G "QuorumLog" c_Q_read 3 y_Q_leaderFor (.ref b0 :: [v0, v1]) rest h := qx_siteV (As := [v0, v1]) (E := "QuorumLog") (ci := 0) d_Q_read_3 qm_576 qm_578 qs_21 w_Q_leaderFor.1 (by decide) rfl p_Q_leaderFor hb0
theorem s_Q_read_12 {l : Launch} {G : qh_G} {h : qh_H} {b0 : Nat} {fs rest : List Value} {v0 : Value} (hb0 : h b0 = some (.inr (4, fs))) : qx_Site l G "QuorumLog" c_Q_read 12 y_R_keptBy (.ref b0 :: [v0]) rest h := qx_siteV (As := [v0]) (E := "QuorumLog$Reads") (ci := 4) d_Q_read_12 qm_702 qm_703 qm_704 w_R_keptBy.1 (by decide) rfl p_R_keptBy hb0
theorem s_Q_read_32 {l : Launch} {G : qh_G} {h : qh_H} {b0 : Nat} {fs rest : List Value} (hb0 : h b0 = some (.inr (6, fs))) : qx_Site l G "QuorumLog" c_Q_read 32 y_S_hasCommitOfItsTerm (.ref b0 :: []) rest h := qx_siteV (As := []) (E := "QuorumLog$Server") (ci := 6) d_Q_read_32 qm_689 qm_690 qm_691 w_S_hasCommitOfItsTerm.1 (by decide) rfl p_S_hasCommitOfItsTerm hb0
theorem s_Q_read_68 {l : Launch} {G : qh_G} {h : qh_H} {b0 : Nat} {fs rest : List Value} {v0 v1 v2 : Value} (hb0 : h b0 = some (.inr (4, fs))) : qx_Site l G "QuorumLog" c_Q_read 68 y_R_keep (.ref b0 :: [v0, v1, v2]) rest h := qx_siteV (As := [v0, v1, v2]) (E := "QuorumLog$Reads") (ci := 4) d_Q_read_68 qm_707 qm_708 qm_709 w_R_keep.1 (by decide) rfl p_R_keep hb0
theorem s_Q_read_75 {l : Launch} {G : qh_G} {h : qh_H} {b0 : Nat} {fs rest : List Value} {v0 : Value} (hb0 : h b0 = some (.inr (0, fs))) : qx_Site l G "QuorumLog" c_Q_read 75 y_Q_sendToAll (.ref b0 :: [v0]) rest h := qx_siteV (As := [v0]) (E := "QuorumLog") (ci := 0) d_Q_read_75 qm_383 qm_385 qs_7 w_Q_sendToAll.1 (by decide) rfl p_Q_sendToAll hb0
theorem s_Q_read_80 {l : Launch} {G : qh_G} {h : qh_H} {b0 : Nat} {fs rest : List Value} {v0 : Value} (hb0 : h b0 = some (.inr (0, fs))) : qx_Site l G "QuorumLog" c_Q_read 80 y_Q_lookAtReads (.ref b0 :: [v0]) rest h := qx_siteV (As := [v0]) (E := "QuorumLog") (ci := 0) d_Q_read_80 qm_517 qm_519 qs_19 w_Q_lookAtReads.1 (by decide) rfl p_Q_lookAtReads hb0
