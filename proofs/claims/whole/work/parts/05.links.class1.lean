theorem d_R_init_0 : decode c_R_init 0 = .ok (.aload_n 0, 1) := by decide +kernel
theorem d_R_init_1 : decode c_R_init 1 = .ok (.invokespecial 3, 3) := by decide +kernel
theorem d_R_init_4 : decode c_R_init 4 = .ok (.aload_n 0, 1) := by decide +kernel
theorem d_R_init_5 : decode c_R_init 5 = .ok (.bipush (60), 2) := by decide +kernel
theorem d_R_init_7 : decode c_R_init 7 = .ok (.newarray .int, 2) := by decide +kernel
theorem d_R_init_9 : decode c_R_init 9 = .ok (.putfield 9, 3) := by decide +kernel
theorem d_R_init_12 : decode c_R_init 12 = .ok (.aload_n 0, 1) := by decide +kernel
theorem d_R_init_13 : decode c_R_init 13 = .ok (.bipush (60), 2) := by decide +kernel
theorem d_R_init_15 : decode c_R_init 15 = .ok (.newarray .int, 2) := by decide +kernel
theorem d_R_init_17 : decode c_R_init 17 = .ok (.putfield 15, 3) := by decide +kernel
theorem d_R_init_20 : decode c_R_init 20 = .ok (.aload_n 0, 1) := by decide +kernel
theorem d_R_init_21 : decode c_R_init 21 = .ok (.bipush (60), 2) := by decide +kernel
theorem d_R_init_23 : decode c_R_init 23 = .ok (.newarray .int, 2) := by decide +kernel
theorem d_R_init_25 : decode c_R_init 25 = .ok (.putfield 18, 3) := by decide +kernel
theorem d_R_init_28 : decode c_R_init 28 = .ok (.aload_n 0, 1) := by decide +kernel
theorem d_R_init_29 : decode c_R_init 29 = .ok (.bipush (60), 2) := by decide +kernel
theorem d_R_init_31 : decode c_R_init 31 = .ok (.newarray .int, 2) := by decide +kernel
theorem d_R_init_33 : decode c_R_init 33 = .ok (.putfield 21, 3) := by decide +kernel
theorem d_R_init_36 : decode c_R_init 36 = .ok (.aload_n 0, 1) := by decide +kernel
theorem d_R_init_37 : decode c_R_init 37 = .ok (.bipush (60), 2) := by decide +kernel
theorem d_R_init_39 : decode c_R_init 39 = .ok (.newarray .int, 2) := by decide +kernel
theorem d_R_init_41 : decode c_R_init 41 = .ok (.putfield 24, 3) := by decide +kernel
theorem d_R_init_44 : decode c_R_init 44 = .ok (.return_, 1) := by decide +kernel
theorem d_N_init_0 : decode c_N_init 0 = .ok (.aload_n 0, 1) := by decide +kernel
theorem d_N_init_1 : decode c_N_init 1 = .ok (.invokespecial 1, 3) := by decide +kernel
theorem d_N_init_4 : decode c_N_init 4 = .ok (.aload_n 0, 1) := by decide +kernel
theorem d_N_init_5 : decode c_N_init 5 = .ok (.iload_n 1, 1) := by decide +kernel
theorem d_N_init_6 : decode c_N_init 6 = .ok (.putfield 7, 3) := by decide +kernel
theorem d_N_init_9 : decode c_N_init 9 = .ok (.aload_n 0, 1) := by decide +kernel
theorem d_N_init_10 : decode c_N_init 10 = .ok (.iload_n 2, 1) := by decide +kernel
theorem d_N_init_11 : decode c_N_init 11 = .ok (.putfield 13, 3) := by decide +kernel
theorem d_N_init_14 : decode c_N_init 14 = .ok (.aload_n 0, 1) := by decide +kernel
theorem d_N_init_15 : decode c_N_init 15 = .ok (.iload_n 3, 1) := by decide +kernel
theorem d_N_init_16 : decode c_N_init 16 = .ok (.putfield 16, 3) := by decide +kernel
theorem d_N_init_19 : decode c_N_init 19 = .ok (.aload_n 0, 1) := by decide +kernel
theorem d_N_init_20 : decode c_N_init 20 = .ok (.aload 4, 2) := by decide +kernel
theorem d_N_init_22 : decode c_N_init 22 = .ok (.putfield 19, 3) := by decide +kernel
theorem d_N_init_25 : decode c_N_init 25 = .ok (.return_, 1) := by decide +kernel
theorem d_S_init_0 : decode c_S_init 0 = .ok (.aload_n 0, 1) := by decide +kernel
theorem d_S_init_1 : decode c_S_init 1 = .ok (.invokespecial 3, 3) := by decide +kernel
theorem d_S_init_4 : decode c_S_init 4 = .ok (.aload_n 0, 1) := by decide +kernel
theorem d_S_init_5 : decode c_S_init 5 = .ok (.iconst 5, 1) := by decide +kernel
theorem d_S_init_6 : decode c_S_init 6 = .ok (.newarray .int, 2) := by decide +kernel
theorem d_S_init_8 : decode c_S_init 8 = .ok (.putfield 9, 3) := by decide +kernel
theorem d_S_init_11 : decode c_S_init 11 = .ok (.aload_n 0, 1) := by decide +kernel
theorem d_S_init_12 : decode c_S_init 12 = .ok (.iconst 5, 1) := by decide +kernel
theorem d_S_init_13 : decode c_S_init 13 = .ok (.newarray .int, 2) := by decide +kernel
theorem d_S_init_15 : decode c_S_init 15 = .ok (.putfield 15, 3) := by decide +kernel
theorem d_S_init_18 : decode c_S_init 18 = .ok (.aload_n 0, 1) := by decide +kernel
theorem d_S_init_19 : decode c_S_init 19 = .ok (.iconst 5, 1) := by decide +kernel
theorem d_S_init_20 : decode c_S_init 20 = .ok (.newarray .int, 2) := by decide +kernel
theorem d_S_init_22 : decode c_S_init 22 = .ok (.putfield 18, 3) := by decide +kernel
theorem d_S_init_25 : decode c_S_init 25 = .ok (.aload_n 0, 1) := by decide +kernel
theorem d_S_init_26 : decode c_S_init 26 = .ok (.iconst 1, 1) := by decide +kernel
theorem d_S_init_27 : decode c_S_init 27 = .ok (.putfield 21, 3) := by decide +kernel
theorem d_S_init_30 : decode c_S_init 30 = .ok (.aload_n 0, 1) := by decide +kernel
theorem d_S_init_31 : decode c_S_init 31 = .ok (.iconst (-1), 1) := by decide +kernel
theorem d_S_init_32 : decode c_S_init 32 = .ok (.putfield 25, 3) := by decide +kernel
theorem d_S_init_35 : decode c_S_init 35 = .ok (.aload_n 0, 1) := by decide +kernel
theorem d_S_init_36 : decode c_S_init 36 = .ok (.iconst 0, 1) := by decide +kernel
theorem d_S_init_37 : decode c_S_init 37 = .ok (.putfield 29, 3) := by decide +kernel
theorem d_S_init_40 : decode c_S_init 40 = .ok (.aload_n 0, 1) := by decide +kernel
theorem d_S_init_41 : decode c_S_init 41 = .ok (.iload_n 1, 1) := by decide +kernel
theorem d_S_init_42 : decode c_S_init 42 = .ok (.putfield 32, 3) := by decide +kernel
theorem d_S_init_45 : decode c_S_init 45 = .ok (.aload_n 0, 1) := by decide +kernel
theorem d_S_init_46 : decode c_S_init 46 = .ok (.new 35, 3) := by decide +kernel
theorem d_S_init_49 : decode c_S_init 49 = .ok (.dup, 1) := by decide +kernel
theorem d_S_init_50 : decode c_S_init 50 = .ok (.aload_n 2, 1) := by decide +kernel
theorem d_S_init_51 : decode c_S_init 51 = .ok (.invokespecial 37, 3) := by decide +kernel
theorem d_S_init_54 : decode c_S_init 54 = .ok (.putfield 40, 3) := by decide +kernel
theorem d_S_init_57 : decode c_S_init 57 = .ok (.return_, 1) := by decide +kernel
theorem d_L_init_0 : decode c_L_init 0 = .ok (.aload_n 0, 1) := by decide +kernel
theorem d_L_init_1 : decode c_L_init 1 = .ok (.invokespecial 3, 3) := by decide +kernel
theorem d_L_init_4 : decode c_L_init 4 = .ok (.aload_n 0, 1) := by decide +kernel
theorem d_L_init_5 : decode c_L_init 5 = .ok (.bipush (48), 2) := by decide +kernel
theorem d_L_init_7 : decode c_L_init 7 = .ok (.anewarray 9, 3) := by decide +kernel
theorem d_L_init_10 : decode c_L_init 10 = .ok (.putfield 11, 3) := by decide +kernel
theorem d_L_init_13 : decode c_L_init 13 = .ok (.aload_n 0, 1) := by decide +kernel
theorem d_L_init_14 : decode c_L_init 14 = .ok (.aload_n 1, 1) := by decide +kernel
theorem d_L_init_15 : decode c_L_init 15 = .ok (.putfield 17, 3) := by decide +kernel
theorem d_L_init_18 : decode c_L_init 18 = .ok (.return_, 1) := by decide +kernel
theorem d_W_init_0 : decode c_W_init 0 = .ok (.aload_n 0, 1) := by decide +kernel
theorem d_W_init_1 : decode c_W_init 1 = .ok (.invokespecial 3, 3) := by decide +kernel
theorem d_W_init_4 : decode c_W_init 4 = .ok (.aload_n 0, 1) := by decide +kernel
theorem d_W_init_5 : decode c_W_init 5 = .ok (.bipush (49), 2) := by decide +kernel
theorem d_W_init_7 : decode c_W_init 7 = .ok (.anewarray 9, 3) := by decide +kernel
theorem d_W_init_10 : decode c_W_init 10 = .ok (.putfield 11, 3) := by decide +kernel
theorem d_W_init_13 : decode c_W_init 13 = .ok (.iconst 0, 1) := by decide +kernel
theorem d_W_init_14 : decode c_W_init 14 = .ok (.istore_n 2, 1) := by decide +kernel
theorem d_W_init_15 : decode c_W_init 15 = .ok (.iload_n 2, 1) := by decide +kernel
theorem d_W_init_16 : decode c_W_init 16 = .ok (.aload_n 0, 1) := by decide +kernel
theorem d_W_init_17 : decode c_W_init 17 = .ok (.getfield 11, 3) := by decide +kernel
theorem d_W_init_20 : decode c_W_init 20 = .ok (.arraylength, 1) := by decide +kernel
theorem d_W_init_21 : decode c_W_init 21 = .ok (.if_icmp .ge (23), 3) := by decide +kernel
theorem d_W_init_24 : decode c_W_init 24 = .ok (.aload_n 0, 1) := by decide +kernel
theorem d_W_init_25 : decode c_W_init 25 = .ok (.getfield 11, 3) := by decide +kernel
theorem d_W_init_28 : decode c_W_init 28 = .ok (.iload_n 2, 1) := by decide +kernel
theorem d_W_init_29 : decode c_W_init 29 = .ok (.new 9, 3) := by decide +kernel
theorem d_W_init_32 : decode c_W_init 32 = .ok (.dup, 1) := by decide +kernel
theorem d_W_init_33 : decode c_W_init 33 = .ok (.aload_n 1, 1) := by decide +kernel
theorem d_W_init_34 : decode c_W_init 34 = .ok (.invokespecial 17, 3) := by decide +kernel
theorem d_W_init_37 : decode c_W_init 37 = .ok (.aastore, 1) := by decide +kernel
theorem d_W_init_38 : decode c_W_init 38 = .ok (.iinc 2 (1), 3) := by decide +kernel
theorem d_W_init_41 : decode c_W_init 41 = .ok (.goto (-26), 3) := by decide +kernel
theorem d_W_init_44 : decode c_W_init 44 = .ok (.aload_n 0, 1) := by decide +kernel
theorem d_W_init_45 : decode c_W_init 45 = .ok (.new 9, 3) := by decide +kernel
theorem d_W_init_48 : decode c_W_init 48 = .ok (.dup, 1) := by decide +kernel
theorem d_W_init_49 : decode c_W_init 49 = .ok (.aload_n 1, 1) := by decide +kernel
theorem d_W_init_50 : decode c_W_init 50 = .ok (.invokespecial 17, 3) := by decide +kernel
theorem d_W_init_53 : decode c_W_init 53 = .ok (.putfield 20, 3) := by decide +kernel
theorem d_W_init_56 : decode c_W_init 56 = .ok (.return_, 1) := by decide +kernel
theorem d_M_init_0 : decode c_M_init 0 = .ok (.aload_n 0, 1) := by decide +kernel
theorem d_M_init_1 : decode c_M_init 1 = .ok (.invokespecial 3, 3) := by decide +kernel
theorem d_M_init_4 : decode c_M_init 4 = .ok (.aload_n 0, 1) := by decide +kernel
theorem d_M_init_5 : decode c_M_init 5 = .ok (.iconst 2, 1) := by decide +kernel
theorem d_M_init_6 : decode c_M_init 6 = .ok (.anewarray 9, 3) := by decide +kernel
theorem d_M_init_9 : decode c_M_init 9 = .ok (.putfield 11, 3) := by decide +kernel
theorem d_M_init_12 : decode c_M_init 12 = .ok (.aload_n 0, 1) := by decide +kernel
theorem d_M_init_13 : decode c_M_init 13 = .ok (.aload_n 1, 1) := by decide +kernel
theorem d_M_init_14 : decode c_M_init 14 = .ok (.putfield 17, 3) := by decide +kernel
theorem d_M_init_17 : decode c_M_init 17 = .ok (.return_, 1) := by decide +kernel
theorem d_S_mayAsk_0 : decode c_S_mayAsk 0 = .ok (.aload_n 0, 1) := by decide +kernel
theorem d_S_mayAsk_1 : decode c_S_mayAsk 1 = .ok (.getfield 21, 3) := by decide +kernel
theorem d_S_mayAsk_4 : decode c_S_mayAsk 4 = .ok (.ifCond .eq (44), 3) := by decide +kernel
theorem d_S_mayAsk_7 : decode c_S_mayAsk 7 = .ok (.aload_n 0, 1) := by decide +kernel
theorem d_S_mayAsk_8 : decode c_S_mayAsk 8 = .ok (.getfield 29, 3) := by decide +kernel
theorem d_S_mayAsk_11 : decode c_S_mayAsk 11 = .ok (.iconst 3, 1) := by decide +kernel
theorem d_S_mayAsk_12 : decode c_S_mayAsk 12 = .ok (.if_icmp .eq (36), 3) := by decide +kernel
theorem d_S_mayAsk_15 : decode c_S_mayAsk 15 = .ok (.aload_n 0, 1) := by decide +kernel
theorem d_S_mayAsk_16 : decode c_S_mayAsk 16 = .ok (.getfield 40, 3) := by decide +kernel
theorem d_S_mayAsk_19 : decode c_S_mayAsk 19 = .ok (.invokevirtual 44, 3) := by decide +kernel
theorem d_S_mayAsk_22 : decode c_S_mayAsk 22 = .ok (.aload_n 0, 1) := by decide +kernel
theorem d_S_mayAsk_23 : decode c_S_mayAsk 23 = .ok (.getfield 32, 3) := by decide +kernel
theorem d_S_mayAsk_26 : decode c_S_mayAsk 26 = .ok (.invokestatic 48, 3) := by decide +kernel
theorem d_S_mayAsk_29 : decode c_S_mayAsk 29 = .ok (.ifCond .eq (19), 3) := by decide +kernel
theorem d_S_mayAsk_32 : decode c_S_mayAsk 32 = .ok (.aload_n 0, 1) := by decide +kernel
theorem d_S_mayAsk_33 : decode c_S_mayAsk 33 = .ok (.getfield 40, 3) := by decide +kernel
theorem d_S_mayAsk_36 : decode c_S_mayAsk 36 = .ok (.getfield 52, 3) := by decide +kernel
theorem d_S_mayAsk_39 : decode c_S_mayAsk 39 = .ok (.bipush (40), 2) := by decide +kernel
theorem d_S_mayAsk_41 : decode c_S_mayAsk 41 = .ok (.if_icmp .ge (7), 3) := by decide +kernel
theorem d_S_mayAsk_44 : decode c_S_mayAsk 44 = .ok (.iconst 1, 1) := by decide +kernel
theorem d_S_mayAsk_45 : decode c_S_mayAsk 45 = .ok (.goto (4), 3) := by decide +kernel
theorem d_S_mayAsk_48 : decode c_S_mayAsk 48 = .ok (.iconst 0, 1) := by decide +kernel
theorem d_S_mayAsk_49 : decode c_S_mayAsk 49 = .ok (.ireturn, 1) := by decide +kernel
theorem d_L_configuration_0 : decode c_L_configuration 0 = .ok (.aload_n 0, 1) := by decide +kernel
theorem d_L_configuration_1 : decode c_L_configuration 1 = .ok (.aload_n 0, 1) := by decide +kernel
theorem d_L_configuration_2 : decode c_L_configuration 2 = .ok (.aload_n 0, 1) := by decide +kernel
theorem d_L_configuration_3 : decode c_L_configuration 3 = .ok (.invokevirtual 30, 3) := by decide +kernel
theorem d_L_configuration_6 : decode c_L_configuration 6 = .ok (.invokevirtual 49, 3) := by decide +kernel
theorem d_L_configuration_9 : decode c_L_configuration 9 = .ok (.invokevirtual 52, 3) := by decide +kernel
theorem d_L_configuration_12 : decode c_L_configuration 12 = .ok (.ireturn, 1) := by decide +kernel
theorem d_L_last_0 : decode c_L_last 0 = .ok (.aload_n 0, 1) := by decide +kernel
theorem d_L_last_1 : decode c_L_last 1 = .ok (.getfield 17, 3) := by decide +kernel
theorem d_L_last_4 : decode c_L_last 4 = .ok (.getfield 21, 3) := by decide +kernel
theorem d_L_last_7 : decode c_L_last 7 = .ok (.aload_n 0, 1) := by decide +kernel
theorem d_L_last_8 : decode c_L_last 8 = .ok (.getfield 27, 3) := by decide +kernel
theorem d_L_last_11 : decode c_L_last 11 = .ok (.iadd, 1) := by decide +kernel
theorem d_L_last_12 : decode c_L_last 12 = .ok (.ireturn, 1) := by decide +kernel
theorem d_L_latestMembersUpTo_0 : decode c_L_latestMembersUpTo 0 = .ok (.iload_n 1, 1) := by decide +kernel
theorem d_L_latestMembersUpTo_1 : decode c_L_latestMembersUpTo 1 = .ok (.istore_n 2, 1) := by decide +kernel
theorem d_L_latestMembersUpTo_2 : decode c_L_latestMembersUpTo 2 = .ok (.iload_n 2, 1) := by decide +kernel
theorem d_L_latestMembersUpTo_3 : decode c_L_latestMembersUpTo 3 = .ok (.aload_n 0, 1) := by decide +kernel
theorem d_L_latestMembersUpTo_4 : decode c_L_latestMembersUpTo 4 = .ok (.getfield 17, 3) := by decide +kernel
theorem d_L_latestMembersUpTo_7 : decode c_L_latestMembersUpTo 7 = .ok (.getfield 21, 3) := by decide +kernel
theorem d_L_latestMembersUpTo_10 : decode c_L_latestMembersUpTo 10 = .ok (.if_icmp .le (29), 3) := by decide +kernel
theorem d_L_latestMembersUpTo_13 : decode c_L_latestMembersUpTo 13 = .ok (.aload_n 0, 1) := by decide +kernel
theorem d_L_latestMembersUpTo_14 : decode c_L_latestMembersUpTo 14 = .ok (.iload_n 2, 1) := by decide +kernel
theorem d_L_latestMembersUpTo_15 : decode c_L_latestMembersUpTo 15 = .ok (.invokevirtual 41, 3) := by decide +kernel
theorem d_L_latestMembersUpTo_18 : decode c_L_latestMembersUpTo 18 = .ok (.astore_n 3, 1) := by decide +kernel
theorem d_L_latestMembersUpTo_19 : decode c_L_latestMembersUpTo 19 = .ok (.aload_n 3, 1) := by decide +kernel
theorem d_L_latestMembersUpTo_20 : decode c_L_latestMembersUpTo 20 = .ok (.ifnull (13), 3) := by decide +kernel
theorem d_L_latestMembersUpTo_23 : decode c_L_latestMembersUpTo 23 = .ok (.aload_n 3, 1) := by decide +kernel
theorem d_L_latestMembersUpTo_24 : decode c_L_latestMembersUpTo 24 = .ok (.getfield 46, 3) := by decide +kernel
theorem d_L_latestMembersUpTo_27 : decode c_L_latestMembersUpTo 27 = .ok (.iconst 2, 1) := by decide +kernel
theorem d_L_latestMembersUpTo_28 : decode c_L_latestMembersUpTo 28 = .ok (.if_icmp .ne (5), 3) := by decide +kernel
theorem d_L_latestMembersUpTo_31 : decode c_L_latestMembersUpTo 31 = .ok (.iload_n 2, 1) := by decide +kernel
theorem d_L_latestMembersUpTo_32 : decode c_L_latestMembersUpTo 32 = .ok (.ireturn, 1) := by decide +kernel
theorem d_L_latestMembersUpTo_33 : decode c_L_latestMembersUpTo 33 = .ok (.iinc 2 (-1), 3) := by decide +kernel
theorem d_L_latestMembersUpTo_36 : decode c_L_latestMembersUpTo 36 = .ok (.goto (-34), 3) := by decide +kernel
theorem d_L_latestMembersUpTo_39 : decode c_L_latestMembersUpTo 39 = .ok (.iconst (-1), 1) := by decide +kernel
theorem d_L_latestMembersUpTo_40 : decode c_L_latestMembersUpTo 40 = .ok (.ireturn, 1) := by decide +kernel
theorem d_L_find_0 : decode c_L_find 0 = .ok (.iload_n 1, 1) := by decide +kernel
theorem d_L_find_1 : decode c_L_find 1 = .ok (.aload_n 0, 1) := by decide +kernel
theorem d_L_find_2 : decode c_L_find 2 = .ok (.getfield 17, 3) := by decide +kernel
theorem d_L_find_5 : decode c_L_find 5 = .ok (.getfield 21, 3) := by decide +kernel
theorem d_L_find_8 : decode c_L_find 8 = .ok (.isub, 1) := by decide +kernel
theorem d_L_find_9 : decode c_L_find 9 = .ok (.iconst 1, 1) := by decide +kernel
theorem d_L_find_10 : decode c_L_find 10 = .ok (.isub, 1) := by decide +kernel
theorem d_L_find_11 : decode c_L_find 11 = .ok (.istore_n 2, 1) := by decide +kernel
theorem d_L_find_12 : decode c_L_find 12 = .ok (.iload_n 2, 1) := by decide +kernel
theorem d_L_find_13 : decode c_L_find 13 = .ok (.ifCond .lt (20), 3) := by decide +kernel
theorem d_L_find_16 : decode c_L_find 16 = .ok (.iload_n 2, 1) := by decide +kernel
theorem d_L_find_17 : decode c_L_find 17 = .ok (.aload_n 0, 1) := by decide +kernel
theorem d_L_find_18 : decode c_L_find 18 = .ok (.getfield 27, 3) := by decide +kernel
theorem d_L_find_21 : decode c_L_find 21 = .ok (.if_icmp .ge (12), 3) := by decide +kernel
theorem d_L_find_24 : decode c_L_find 24 = .ok (.aload_n 0, 1) := by decide +kernel
theorem d_L_find_25 : decode c_L_find 25 = .ok (.getfield 11, 3) := by decide +kernel
theorem d_L_find_28 : decode c_L_find 28 = .ok (.iload_n 2, 1) := by decide +kernel
theorem d_L_find_29 : decode c_L_find 29 = .ok (.aaload, 1) := by decide +kernel
theorem d_L_find_30 : decode c_L_find 30 = .ok (.goto (4), 3) := by decide +kernel
theorem d_L_find_33 : decode c_L_find 33 = .ok (.aconst_null, 1) := by decide +kernel
theorem d_L_find_34 : decode c_L_find 34 = .ok (.areturn, 1) := by decide +kernel
theorem d_L_membersAt_0 : decode c_L_membersAt 0 = .ok (.aload_n 0, 1) := by decide +kernel
theorem d_L_membersAt_1 : decode c_L_membersAt 1 = .ok (.iload_n 1, 1) := by decide +kernel
theorem d_L_membersAt_2 : decode c_L_membersAt 2 = .ok (.invokevirtual 41, 3) := by decide +kernel
theorem d_L_membersAt_5 : decode c_L_membersAt 5 = .ok (.astore_n 2, 1) := by decide +kernel
theorem d_L_membersAt_6 : decode c_L_membersAt 6 = .ok (.aload_n 2, 1) := by decide +kernel
theorem d_L_membersAt_7 : decode c_L_membersAt 7 = .ok (.ifnonnull (13), 3) := by decide +kernel
theorem d_L_membersAt_10 : decode c_L_membersAt 10 = .ok (.aload_n 0, 1) := by decide +kernel
theorem d_L_membersAt_11 : decode c_L_membersAt 11 = .ok (.getfield 17, 3) := by decide +kernel
theorem d_L_membersAt_14 : decode c_L_membersAt 14 = .ok (.getfield 55, 3) := by decide +kernel
theorem d_L_membersAt_17 : decode c_L_membersAt 17 = .ok (.goto (7), 3) := by decide +kernel
theorem d_L_membersAt_20 : decode c_L_membersAt 20 = .ok (.aload_n 2, 1) := by decide +kernel
theorem d_L_membersAt_21 : decode c_L_membersAt 21 = .ok (.getfield 58, 3) := by decide +kernel
theorem d_L_membersAt_24 : decode c_L_membersAt 24 = .ok (.ireturn, 1) := by decide +kernel
theorem d_W_send_0 : decode c_W_send 0 = .ok (.aload_n 0, 1) := by decide +kernel
theorem d_W_send_1 : decode c_W_send 1 = .ok (.getfield 11, 3) := by decide +kernel
theorem d_W_send_4 : decode c_W_send 4 = .ok (.aload_n 0, 1) := by decide +kernel
theorem d_W_send_5 : decode c_W_send 5 = .ok (.getfield 24, 3) := by decide +kernel
theorem d_W_send_8 : decode c_W_send 8 = .ok (.aaload, 1) := by decide +kernel
theorem d_W_send_9 : decode c_W_send 9 = .ok (.astore 5, 2) := by decide +kernel
theorem d_W_send_11 : decode c_W_send 11 = .ok (.aload 5, 2) := by decide +kernel
theorem d_W_send_13 : decode c_W_send 13 = .ok (.iload_n 1, 1) := by decide +kernel
theorem d_W_send_14 : decode c_W_send 14 = .ok (.iload_n 2, 1) := by decide +kernel
theorem d_W_send_15 : decode c_W_send 15 = .ok (.iload_n 3, 1) := by decide +kernel
theorem d_W_send_16 : decode c_W_send 16 = .ok (.iload 4, 2) := by decide +kernel
theorem d_W_send_18 : decode c_W_send 18 = .ok (.invokevirtual 28, 3) := by decide +kernel
theorem d_W_send_21 : decode c_W_send 21 = .ok (.aload_n 0, 1) := by decide +kernel
theorem d_W_send_22 : decode c_W_send 22 = .ok (.getfield 24, 3) := by decide +kernel
theorem d_W_send_25 : decode c_W_send 25 = .ok (.bipush (48), 2) := by decide +kernel
theorem d_W_send_27 : decode c_W_send 27 = .ok (.if_icmp .ge (13), 3) := by decide +kernel
theorem d_W_send_30 : decode c_W_send 30 = .ok (.aload_n 0, 1) := by decide +kernel
theorem d_W_send_31 : decode c_W_send 31 = .ok (.dup, 1) := by decide +kernel
theorem d_W_send_32 : decode c_W_send 32 = .ok (.getfield 24, 3) := by decide +kernel
theorem d_W_send_35 : decode c_W_send 35 = .ok (.iconst 1, 1) := by decide +kernel
theorem d_W_send_36 : decode c_W_send 36 = .ok (.iadd, 1) := by decide +kernel
theorem d_W_send_37 : decode c_W_send 37 = .ok (.putfield 24, 3) := by decide +kernel
theorem d_W_send_40 : decode c_W_send 40 = .ok (.aload 5, 2) := by decide +kernel
theorem d_W_send_42 : decode c_W_send 42 = .ok (.areturn, 1) := by decide +kernel
theorem d_M_begin_0 : decode c_M_begin 0 = .ok (.aload_n 0, 1) := by decide +kernel
theorem d_M_begin_1 : decode c_M_begin 1 = .ok (.iload_n 1, 1) := by decide +kernel
theorem d_M_begin_2 : decode c_M_begin 2 = .ok (.putfield 21, 3) := by decide +kernel
theorem d_M_begin_5 : decode c_M_begin 5 = .ok (.aload_n 0, 1) := by decide +kernel
theorem d_M_begin_6 : decode c_M_begin 6 = .ok (.iload_n 2, 1) := by decide +kernel
theorem d_M_begin_7 : decode c_M_begin 7 = .ok (.putfield 25, 3) := by decide +kernel
theorem d_M_begin_10 : decode c_M_begin 10 = .ok (.aload_n 0, 1) := by decide +kernel
theorem d_M_begin_11 : decode c_M_begin 11 = .ok (.iload_n 3, 1) := by decide +kernel
theorem d_M_begin_12 : decode c_M_begin 12 = .ok (.putfield 28, 3) := by decide +kernel
theorem d_M_begin_15 : decode c_M_begin 15 = .ok (.aload_n 0, 1) := by decide +kernel
theorem d_M_begin_16 : decode c_M_begin 16 = .ok (.iload 4, 2) := by decide +kernel
theorem d_M_begin_18 : decode c_M_begin 18 = .ok (.putfield 31, 3) := by decide +kernel
theorem d_M_begin_21 : decode c_M_begin 21 = .ok (.aload_n 0, 1) := by decide +kernel
theorem d_M_begin_22 : decode c_M_begin 22 = .ok (.iconst 0, 1) := by decide +kernel
theorem d_M_begin_23 : decode c_M_begin 23 = .ok (.putfield 34, 3) := by decide +kernel
theorem d_M_begin_26 : decode c_M_begin 26 = .ok (.aload_n 0, 1) := by decide +kernel
theorem d_M_begin_27 : decode c_M_begin 27 = .ok (.iconst 0, 1) := by decide +kernel
theorem d_M_begin_28 : decode c_M_begin 28 = .ok (.putfield 37, 3) := by decide +kernel
theorem d_M_begin_31 : decode c_M_begin 31 = .ok (.aload_n 0, 1) := by decide +kernel
theorem d_M_begin_32 : decode c_M_begin 32 = .ok (.iconst 0, 1) := by decide +kernel
theorem d_M_begin_33 : decode c_M_begin 33 = .ok (.putfield 40, 3) := by decide +kernel
theorem d_M_begin_36 : decode c_M_begin 36 = .ok (.aload_n 0, 1) := by decide +kernel
theorem d_M_begin_37 : decode c_M_begin 37 = .ok (.iconst 0, 1) := by decide +kernel
theorem d_M_begin_38 : decode c_M_begin 38 = .ok (.putfield 43, 3) := by decide +kernel
theorem d_M_begin_41 : decode c_M_begin 41 = .ok (.aload_n 0, 1) := by decide +kernel
theorem d_M_begin_42 : decode c_M_begin 42 = .ok (.iconst 0, 1) := by decide +kernel
theorem d_M_begin_43 : decode c_M_begin 43 = .ok (.putfield 46, 3) := by decide +kernel
theorem d_M_begin_46 : decode c_M_begin 46 = .ok (.aload_n 0, 1) := by decide +kernel
theorem d_M_begin_47 : decode c_M_begin 47 = .ok (.iconst 0, 1) := by decide +kernel
theorem d_M_begin_48 : decode c_M_begin 48 = .ok (.putfield 49, 3) := by decide +kernel
theorem d_M_begin_51 : decode c_M_begin 51 = .ok (.return_, 1) := by decide +kernel
theorem d_L_lastTerm_0 : decode c_L_lastTerm 0 = .ok (.aload_n 0, 1) := by decide +kernel
theorem d_L_lastTerm_1 : decode c_L_lastTerm 1 = .ok (.aload_n 0, 1) := by decide +kernel
theorem d_L_lastTerm_2 : decode c_L_lastTerm 2 = .ok (.invokevirtual 30, 3) := by decide +kernel
theorem d_L_lastTerm_5 : decode c_L_lastTerm 5 = .ok (.invokevirtual 34, 3) := by decide +kernel
theorem d_L_lastTerm_8 : decode c_L_lastTerm 8 = .ok (.ireturn, 1) := by decide +kernel
theorem d_L_termAt_0 : decode c_L_termAt 0 = .ok (.iload_n 1, 1) := by decide +kernel
theorem d_L_termAt_1 : decode c_L_termAt 1 = .ok (.aload_n 0, 1) := by decide +kernel
theorem d_L_termAt_2 : decode c_L_termAt 2 = .ok (.getfield 17, 3) := by decide +kernel
theorem d_L_termAt_5 : decode c_L_termAt 5 = .ok (.getfield 21, 3) := by decide +kernel
theorem d_L_termAt_8 : decode c_L_termAt 8 = .ok (.if_icmp .ne (11), 3) := by decide +kernel
theorem d_L_termAt_11 : decode c_L_termAt 11 = .ok (.aload_n 0, 1) := by decide +kernel
theorem d_L_termAt_12 : decode c_L_termAt 12 = .ok (.getfield 17, 3) := by decide +kernel
theorem d_L_termAt_15 : decode c_L_termAt 15 = .ok (.getfield 38, 3) := by decide +kernel
theorem d_L_termAt_18 : decode c_L_termAt 18 = .ok (.ireturn, 1) := by decide +kernel
theorem d_L_termAt_19 : decode c_L_termAt 19 = .ok (.aload_n 0, 1) := by decide +kernel
theorem d_L_termAt_20 : decode c_L_termAt 20 = .ok (.iload_n 1, 1) := by decide +kernel
theorem d_L_termAt_21 : decode c_L_termAt 21 = .ok (.invokevirtual 41, 3) := by decide +kernel
theorem d_L_termAt_24 : decode c_L_termAt 24 = .ok (.astore_n 2, 1) := by decide +kernel
theorem d_L_termAt_25 : decode c_L_termAt 25 = .ok (.aload_n 2, 1) := by decide +kernel
theorem d_L_termAt_26 : decode c_L_termAt 26 = .ok (.ifnonnull (7), 3) := by decide +kernel
theorem d_L_termAt_29 : decode c_L_termAt 29 = .ok (.iconst (-1), 1) := by decide +kernel
theorem d_L_termAt_30 : decode c_L_termAt 30 = .ok (.goto (7), 3) := by decide +kernel
theorem d_L_termAt_33 : decode c_L_termAt 33 = .ok (.aload_n 2, 1) := by decide +kernel
theorem d_L_termAt_34 : decode c_L_termAt 34 = .ok (.getfield 45, 3) := by decide +kernel
theorem d_L_termAt_37 : decode c_L_termAt 37 = .ok (.ireturn, 1) := by decide +kernel
theorem d_E_init_0 : decode c_E_init 0 = .ok (.aload_n 0, 1) := by decide +kernel
theorem d_E_init_1 : decode c_E_init 1 = .ok (.invokespecial 1, 3) := by decide +kernel
theorem d_E_init_4 : decode c_E_init 4 = .ok (.aload_n 0, 1) := by decide +kernel
theorem d_E_init_5 : decode c_E_init 5 = .ok (.iload_n 1, 1) := by decide +kernel
theorem d_E_init_6 : decode c_E_init 6 = .ok (.putfield 7, 3) := by decide +kernel
theorem d_E_init_9 : decode c_E_init 9 = .ok (.aload_n 0, 1) := by decide +kernel
theorem d_E_init_10 : decode c_E_init 10 = .ok (.iload_n 2, 1) := by decide +kernel
theorem d_E_init_11 : decode c_E_init 11 = .ok (.putfield 13, 3) := by decide +kernel
theorem d_E_init_14 : decode c_E_init 14 = .ok (.aload_n 0, 1) := by decide +kernel
theorem d_E_init_15 : decode c_E_init 15 = .ok (.iload_n 3, 1) := by decide +kernel
theorem d_E_init_16 : decode c_E_init 16 = .ok (.putfield 16, 3) := by decide +kernel
theorem d_E_init_19 : decode c_E_init 19 = .ok (.aload_n 0, 1) := by decide +kernel
theorem d_E_init_20 : decode c_E_init 20 = .ok (.iload 4, 2) := by decide +kernel
theorem d_E_init_22 : decode c_E_init 22 = .ok (.putfield 19, 3) := by decide +kernel
theorem d_E_init_25 : decode c_E_init 25 = .ok (.return_, 1) := by decide +kernel
theorem d_L_add_0 : decode c_L_add 0 = .ok (.aload_n 0, 1) := by decide +kernel
theorem d_L_add_1 : decode c_L_add 1 = .ok (.getfield 27, 3) := by decide +kernel
theorem d_L_add_4 : decode c_L_add 4 = .ok (.bipush (48), 2) := by decide +kernel
theorem d_L_add_6 : decode c_L_add 6 = .ok (.if_icmp .lt (5), 3) := by decide +kernel
theorem d_L_add_9 : decode c_L_add 9 = .ok (.iconst 0, 1) := by decide +kernel
theorem d_L_add_10 : decode c_L_add 10 = .ok (.ireturn, 1) := by decide +kernel
theorem d_L_add_11 : decode c_L_add 11 = .ok (.aload_n 0, 1) := by decide +kernel
theorem d_L_add_12 : decode c_L_add 12 = .ok (.getfield 11, 3) := by decide +kernel
theorem d_L_add_15 : decode c_L_add 15 = .ok (.aload_n 0, 1) := by decide +kernel
theorem d_L_add_16 : decode c_L_add 16 = .ok (.getfield 27, 3) := by decide +kernel
theorem d_L_add_19 : decode c_L_add 19 = .ok (.aload_n 1, 1) := by decide +kernel
theorem d_L_add_20 : decode c_L_add 20 = .ok (.aastore, 1) := by decide +kernel
theorem d_L_add_21 : decode c_L_add 21 = .ok (.aload_n 0, 1) := by decide +kernel
theorem d_L_add_22 : decode c_L_add 22 = .ok (.dup, 1) := by decide +kernel
theorem d_L_add_23 : decode c_L_add 23 = .ok (.getfield 27, 3) := by decide +kernel
theorem d_L_add_26 : decode c_L_add 26 = .ok (.iconst 1, 1) := by decide +kernel
theorem d_L_add_27 : decode c_L_add 27 = .ok (.iadd, 1) := by decide +kernel
theorem d_L_add_28 : decode c_L_add 28 = .ok (.putfield 27, 3) := by decide +kernel
theorem d_L_add_31 : decode c_L_add 31 = .ok (.iconst 1, 1) := by decide +kernel
theorem d_L_add_32 : decode c_L_add 32 = .ok (.ireturn, 1) := by decide +kernel
theorem d_S_holdersOf_0 : decode c_S_holdersOf 0 = .ok (.aload_n 0, 1) := by decide +kernel
theorem d_S_holdersOf_1 : decode c_S_holdersOf 1 = .ok (.aload_n 0, 1) := by decide +kernel
theorem d_S_holdersOf_2 : decode c_S_holdersOf 2 = .ok (.getfield 15, 3) := by decide +kernel
theorem d_S_holdersOf_5 : decode c_S_holdersOf 5 = .ok (.iload_n 1, 1) := by decide +kernel
theorem d_S_holdersOf_6 : decode c_S_holdersOf 6 = .ok (.invokevirtual 69, 3) := by decide +kernel
theorem d_S_holdersOf_9 : decode c_S_holdersOf 9 = .ok (.ireturn, 1) := by decide +kernel
theorem d_S_reachedBy_0 : decode c_S_reachedBy 0 = .ok (.iconst 1, 1) := by decide +kernel
theorem d_S_reachedBy_1 : decode c_S_reachedBy 1 = .ok (.aload_n 0, 1) := by decide +kernel
theorem d_S_reachedBy_2 : decode c_S_reachedBy 2 = .ok (.getfield 32, 3) := by decide +kernel
theorem d_S_reachedBy_5 : decode c_S_reachedBy 5 = .ok (.ishl, 1) := by decide +kernel
theorem d_S_reachedBy_6 : decode c_S_reachedBy 6 = .ok (.istore_n 3, 1) := by decide +kernel
theorem d_S_reachedBy_7 : decode c_S_reachedBy 7 = .ok (.iconst 0, 1) := by decide +kernel
theorem d_S_reachedBy_8 : decode c_S_reachedBy 8 = .ok (.istore 4, 2) := by decide +kernel
theorem d_S_reachedBy_10 : decode c_S_reachedBy 10 = .ok (.iload 4, 2) := by decide +kernel
theorem d_S_reachedBy_12 : decode c_S_reachedBy 12 = .ok (.iconst 5, 1) := by decide +kernel
theorem d_S_reachedBy_13 : decode c_S_reachedBy 13 = .ok (.if_icmp .ge (24), 3) := by decide +kernel
theorem d_S_reachedBy_16 : decode c_S_reachedBy 16 = .ok (.aload_n 1, 1) := by decide +kernel
theorem d_S_reachedBy_17 : decode c_S_reachedBy 17 = .ok (.iload 4, 2) := by decide +kernel
theorem d_S_reachedBy_19 : decode c_S_reachedBy 19 = .ok (.iaload, 1) := by decide +kernel
theorem d_S_reachedBy_20 : decode c_S_reachedBy 20 = .ok (.iload_n 2, 1) := by decide +kernel
theorem d_S_reachedBy_21 : decode c_S_reachedBy 21 = .ok (.if_icmp .lt (10), 3) := by decide +kernel
theorem d_S_reachedBy_24 : decode c_S_reachedBy 24 = .ok (.iload_n 3, 1) := by decide +kernel
theorem d_S_reachedBy_25 : decode c_S_reachedBy 25 = .ok (.iconst 1, 1) := by decide +kernel
theorem d_S_reachedBy_26 : decode c_S_reachedBy 26 = .ok (.iload 4, 2) := by decide +kernel
theorem d_S_reachedBy_28 : decode c_S_reachedBy 28 = .ok (.ishl, 1) := by decide +kernel
theorem d_S_reachedBy_29 : decode c_S_reachedBy 29 = .ok (.ior, 1) := by decide +kernel
theorem d_S_reachedBy_30 : decode c_S_reachedBy 30 = .ok (.istore_n 3, 1) := by decide +kernel
theorem d_S_reachedBy_31 : decode c_S_reachedBy 31 = .ok (.iinc 4 (1), 3) := by decide +kernel
theorem d_S_reachedBy_34 : decode c_S_reachedBy 34 = .ok (.goto (-24), 3) := by decide +kernel
theorem d_S_reachedBy_37 : decode c_S_reachedBy 37 = .ok (.iload_n 3, 1) := by decide +kernel
theorem d_S_reachedBy_38 : decode c_S_reachedBy 38 = .ok (.ireturn, 1) := by decide +kernel
theorem d_R_failAllOf_0 : decode c_R_failAllOf 0 = .ok (.iconst 0, 1) := by decide +kernel
theorem d_R_failAllOf_1 : decode c_R_failAllOf 1 = .ok (.istore_n 2, 1) := by decide +kernel
theorem d_R_failAllOf_2 : decode c_R_failAllOf 2 = .ok (.iload_n 2, 1) := by decide +kernel
theorem d_R_failAllOf_3 : decode c_R_failAllOf 3 = .ok (.aload_n 0, 1) := by decide +kernel
theorem d_R_failAllOf_4 : decode c_R_failAllOf 4 = .ok (.getfield 27, 3) := by decide +kernel
theorem d_R_failAllOf_7 : decode c_R_failAllOf 7 = .ok (.if_icmp .ge (25), 3) := by decide +kernel
theorem d_R_failAllOf_10 : decode c_R_failAllOf 10 = .ok (.aload_n 0, 1) := by decide +kernel
theorem d_R_failAllOf_11 : decode c_R_failAllOf 11 = .ok (.iload_n 2, 1) := by decide +kernel
theorem d_R_failAllOf_12 : decode c_R_failAllOf 12 = .ok (.iload_n 1, 1) := by decide +kernel
theorem d_R_failAllOf_13 : decode c_R_failAllOf 13 = .ok (.invokevirtual 31, 3) := by decide +kernel
theorem d_R_failAllOf_16 : decode c_R_failAllOf 16 = .ok (.ifCond .eq (10), 3) := by decide +kernel
theorem d_R_failAllOf_19 : decode c_R_failAllOf 19 = .ok (.aload_n 0, 1) := by decide +kernel
theorem d_R_failAllOf_20 : decode c_R_failAllOf 20 = .ok (.getfield 21, 3) := by decide +kernel
theorem d_R_failAllOf_23 : decode c_R_failAllOf 23 = .ok (.iload_n 2, 1) := by decide +kernel
theorem d_R_failAllOf_24 : decode c_R_failAllOf 24 = .ok (.iconst 2, 1) := by decide +kernel
theorem d_R_failAllOf_25 : decode c_R_failAllOf 25 = .ok (.iastore, 1) := by decide +kernel
theorem d_R_failAllOf_26 : decode c_R_failAllOf 26 = .ok (.iinc 2 (1), 3) := by decide +kernel
theorem d_R_failAllOf_29 : decode c_R_failAllOf 29 = .ok (.goto (-27), 3) := by decide +kernel
theorem d_R_failAllOf_32 : decode c_R_failAllOf 32 = .ok (.return_, 1) := by decide +kernel
theorem d_R_isKeptBy_0 : decode c_R_isKeptBy 0 = .ok (.aload_n 0, 1) := by decide +kernel
theorem d_R_isKeptBy_1 : decode c_R_isKeptBy 1 = .ok (.getfield 21, 3) := by decide +kernel
theorem d_R_isKeptBy_4 : decode c_R_isKeptBy 4 = .ok (.iload_n 1, 1) := by decide +kernel
theorem d_R_isKeptBy_5 : decode c_R_isKeptBy 5 = .ok (.iaload, 1) := by decide +kernel
theorem d_R_isKeptBy_6 : decode c_R_isKeptBy 6 = .ok (.ifCond .ne (17), 3) := by decide +kernel
theorem d_R_isKeptBy_9 : decode c_R_isKeptBy 9 = .ok (.aload_n 0, 1) := by decide +kernel
theorem d_R_isKeptBy_10 : decode c_R_isKeptBy 10 = .ok (.getfield 9, 3) := by decide +kernel
theorem d_R_isKeptBy_13 : decode c_R_isKeptBy 13 = .ok (.iload_n 1, 1) := by decide +kernel
theorem d_R_isKeptBy_14 : decode c_R_isKeptBy 14 = .ok (.iaload, 1) := by decide +kernel
theorem d_R_isKeptBy_15 : decode c_R_isKeptBy 15 = .ok (.iload_n 2, 1) := by decide +kernel
theorem d_R_isKeptBy_16 : decode c_R_isKeptBy 16 = .ok (.if_icmp .ne (7), 3) := by decide +kernel
theorem d_R_isKeptBy_19 : decode c_R_isKeptBy 19 = .ok (.iconst 1, 1) := by decide +kernel
theorem d_R_isKeptBy_20 : decode c_R_isKeptBy 20 = .ok (.goto (4), 3) := by decide +kernel
theorem d_R_isKeptBy_23 : decode c_R_isKeptBy 23 = .ok (.iconst 0, 1) := by decide +kernel
theorem d_R_isKeptBy_24 : decode c_R_isKeptBy 24 = .ok (.ireturn, 1) := by decide +kernel
theorem d_L_copyBehind_0 : decode c_L_copyBehind 0 = .ok (.iconst 0, 1) := by decide +kernel
theorem d_L_copyBehind_1 : decode c_L_copyBehind 1 = .ok (.istore_n 3, 1) := by decide +kernel
theorem d_L_copyBehind_2 : decode c_L_copyBehind 2 = .ok (.iload_n 3, 1) := by decide +kernel
theorem d_L_copyBehind_3 : decode c_L_copyBehind 3 = .ok (.aload_n 2, 1) := by decide +kernel
theorem d_L_copyBehind_4 : decode c_L_copyBehind 4 = .ok (.arraylength, 1) := by decide +kernel
theorem d_L_copyBehind_5 : decode c_L_copyBehind 5 = .ok (.if_icmp .ge (32), 3) := by decide +kernel
theorem d_L_copyBehind_8 : decode c_L_copyBehind 8 = .ok (.aload_n 0, 1) := by decide +kernel
theorem d_L_copyBehind_9 : decode c_L_copyBehind 9 = .ok (.iload_n 1, 1) := by decide +kernel
theorem d_L_copyBehind_10 : decode c_L_copyBehind 10 = .ok (.iconst 1, 1) := by decide +kernel
theorem d_L_copyBehind_11 : decode c_L_copyBehind 11 = .ok (.iadd, 1) := by decide +kernel
theorem d_L_copyBehind_12 : decode c_L_copyBehind 12 = .ok (.iload_n 3, 1) := by decide +kernel
theorem d_L_copyBehind_13 : decode c_L_copyBehind 13 = .ok (.iadd, 1) := by decide +kernel
theorem d_L_copyBehind_14 : decode c_L_copyBehind 14 = .ok (.invokevirtual 41, 3) := by decide +kernel
theorem d_L_copyBehind_17 : decode c_L_copyBehind 17 = .ok (.astore 4, 2) := by decide +kernel
theorem d_L_copyBehind_19 : decode c_L_copyBehind 19 = .ok (.aload 4, 2) := by decide +kernel
theorem d_L_copyBehind_21 : decode c_L_copyBehind 21 = .ok (.ifnonnull (5), 3) := by decide +kernel
theorem d_L_copyBehind_24 : decode c_L_copyBehind 24 = .ok (.iload_n 3, 1) := by decide +kernel
theorem d_L_copyBehind_25 : decode c_L_copyBehind 25 = .ok (.ireturn, 1) := by decide +kernel
theorem d_L_copyBehind_26 : decode c_L_copyBehind 26 = .ok (.aload_n 2, 1) := by decide +kernel
theorem d_L_copyBehind_27 : decode c_L_copyBehind 27 = .ok (.iload_n 3, 1) := by decide +kernel
theorem d_L_copyBehind_28 : decode c_L_copyBehind 28 = .ok (.aload 4, 2) := by decide +kernel
theorem d_L_copyBehind_30 : decode c_L_copyBehind 30 = .ok (.aastore, 1) := by decide +kernel
theorem d_L_copyBehind_31 : decode c_L_copyBehind 31 = .ok (.iinc 3 (1), 3) := by decide +kernel
theorem d_L_copyBehind_34 : decode c_L_copyBehind 34 = .ok (.goto (-32), 3) := by decide +kernel
theorem d_L_copyBehind_37 : decode c_L_copyBehind 37 = .ok (.aload_n 2, 1) := by decide +kernel
theorem d_L_copyBehind_38 : decode c_L_copyBehind 38 = .ok (.arraylength, 1) := by decide +kernel
theorem d_L_copyBehind_39 : decode c_L_copyBehind 39 = .ok (.ireturn, 1) := by decide +kernel
theorem d_S_leads_0 : decode c_S_leads 0 = .ok (.aload_n 0, 1) := by decide +kernel
theorem d_S_leads_1 : decode c_S_leads 1 = .ok (.getfield 21, 3) := by decide +kernel
theorem d_S_leads_4 : decode c_S_leads 4 = .ok (.ifCond .eq (15), 3) := by decide +kernel
theorem d_S_leads_7 : decode c_S_leads 7 = .ok (.aload_n 0, 1) := by decide +kernel
theorem d_S_leads_8 : decode c_S_leads 8 = .ok (.getfield 29, 3) := by decide +kernel
theorem d_S_leads_11 : decode c_S_leads 11 = .ok (.iconst 3, 1) := by decide +kernel
theorem d_S_leads_12 : decode c_S_leads 12 = .ok (.if_icmp .ne (7), 3) := by decide +kernel
theorem d_S_leads_15 : decode c_S_leads 15 = .ok (.iconst 1, 1) := by decide +kernel
theorem d_S_leads_16 : decode c_S_leads 16 = .ok (.goto (4), 3) := by decide +kernel
theorem d_S_leads_19 : decode c_S_leads 19 = .ok (.iconst 0, 1) := by decide +kernel
theorem d_S_leads_20 : decode c_S_leads 20 = .ok (.ireturn, 1) := by decide +kernel
theorem d_R_holds_0 : decode c_R_holds 0 = .ok (.iload_n 1, 1) := by decide +kernel
theorem d_R_holds_1 : decode c_R_holds 1 = .ok (.ifCond .lt (15), 3) := by decide +kernel
theorem d_R_holds_4 : decode c_R_holds 4 = .ok (.iload_n 1, 1) := by decide +kernel
theorem d_R_holds_5 : decode c_R_holds 5 = .ok (.aload_n 0, 1) := by decide +kernel
theorem d_R_holds_6 : decode c_R_holds 6 = .ok (.getfield 27, 3) := by decide +kernel
theorem d_R_holds_9 : decode c_R_holds 9 = .ok (.if_icmp .ge (7), 3) := by decide +kernel
theorem d_R_holds_12 : decode c_R_holds 12 = .ok (.iconst 1, 1) := by decide +kernel
theorem d_R_holds_13 : decode c_R_holds 13 = .ok (.goto (4), 3) := by decide +kernel
theorem d_R_holds_16 : decode c_R_holds 16 = .ok (.iconst 0, 1) := by decide +kernel
theorem d_R_holds_17 : decode c_R_holds 17 = .ok (.ireturn, 1) := by decide +kernel
theorem d_L_snapshotAt_0 : decode c_L_snapshotAt 0 = .ok (.iconst 4, 1) := by decide +kernel
theorem d_L_snapshotAt_1 : decode c_L_snapshotAt 1 = .ok (.newarray .int, 2) := by decide +kernel
theorem d_L_snapshotAt_3 : decode c_L_snapshotAt 3 = .ok (.astore_n 2, 1) := by decide +kernel
theorem d_L_snapshotAt_4 : decode c_L_snapshotAt 4 = .ok (.iconst 0, 1) := by decide +kernel
theorem d_L_snapshotAt_5 : decode c_L_snapshotAt 5 = .ok (.istore_n 3, 1) := by decide +kernel
theorem d_L_snapshotAt_6 : decode c_L_snapshotAt 6 = .ok (.iload_n 3, 1) := by decide +kernel
theorem d_L_snapshotAt_7 : decode c_L_snapshotAt 7 = .ok (.iconst 4, 1) := by decide +kernel
theorem d_L_snapshotAt_8 : decode c_L_snapshotAt 8 = .ok (.if_icmp .ge (18), 3) := by decide +kernel
theorem d_L_snapshotAt_11 : decode c_L_snapshotAt 11 = .ok (.aload_n 2, 1) := by decide +kernel
theorem d_L_snapshotAt_12 : decode c_L_snapshotAt 12 = .ok (.iload_n 3, 1) := by decide +kernel
theorem d_L_snapshotAt_13 : decode c_L_snapshotAt 13 = .ok (.aload_n 0, 1) := by decide +kernel
theorem d_L_snapshotAt_14 : decode c_L_snapshotAt 14 = .ok (.iload_n 1, 1) := by decide +kernel
theorem d_L_snapshotAt_15 : decode c_L_snapshotAt 15 = .ok (.iload_n 3, 1) := by decide +kernel
theorem d_L_snapshotAt_16 : decode c_L_snapshotAt 16 = .ok (.invokevirtual 93, 3) := by decide +kernel
theorem d_L_snapshotAt_19 : decode c_L_snapshotAt 19 = .ok (.iastore, 1) := by decide +kernel
theorem d_L_snapshotAt_20 : decode c_L_snapshotAt 20 = .ok (.iinc 3 (1), 3) := by decide +kernel
theorem d_L_snapshotAt_23 : decode c_L_snapshotAt 23 = .ok (.goto (-17), 3) := by decide +kernel
theorem d_L_snapshotAt_26 : decode c_L_snapshotAt 26 = .ok (.new 22, 3) := by decide +kernel
theorem d_L_snapshotAt_29 : decode c_L_snapshotAt 29 = .ok (.dup, 1) := by decide +kernel
theorem d_L_snapshotAt_30 : decode c_L_snapshotAt 30 = .ok (.iload_n 1, 1) := by decide +kernel
theorem d_L_snapshotAt_31 : decode c_L_snapshotAt 31 = .ok (.aload_n 0, 1) := by decide +kernel
theorem d_L_snapshotAt_32 : decode c_L_snapshotAt 32 = .ok (.iload_n 1, 1) := by decide +kernel
theorem d_L_snapshotAt_33 : decode c_L_snapshotAt 33 = .ok (.invokevirtual 34, 3) := by decide +kernel
theorem d_L_snapshotAt_36 : decode c_L_snapshotAt 36 = .ok (.aload_n 0, 1) := by decide +kernel
theorem d_L_snapshotAt_37 : decode c_L_snapshotAt 37 = .ok (.aload_n 0, 1) := by decide +kernel
theorem d_L_snapshotAt_38 : decode c_L_snapshotAt 38 = .ok (.iload_n 1, 1) := by decide +kernel
theorem d_L_snapshotAt_39 : decode c_L_snapshotAt 39 = .ok (.invokevirtual 49, 3) := by decide +kernel
theorem d_L_snapshotAt_42 : decode c_L_snapshotAt 42 = .ok (.invokevirtual 52, 3) := by decide +kernel
theorem d_L_snapshotAt_45 : decode c_L_snapshotAt 45 = .ok (.aload_n 2, 1) := by decide +kernel
theorem d_L_snapshotAt_46 : decode c_L_snapshotAt 46 = .ok (.invokespecial 97, 3) := by decide +kernel
theorem d_L_snapshotAt_49 : decode c_L_snapshotAt 49 = .ok (.areturn, 1) := by decide +kernel
theorem d_L_storedUpTo_0 : decode c_L_storedUpTo 0 = .ok (.iload_n 1, 1) := by decide +kernel
theorem d_L_storedUpTo_1 : decode c_L_storedUpTo 1 = .ok (.istore_n 3, 1) := by decide +kernel
theorem d_L_storedUpTo_2 : decode c_L_storedUpTo 2 = .ok (.iload_n 3, 1) := by decide +kernel
theorem d_L_storedUpTo_3 : decode c_L_storedUpTo 3 = .ok (.aload_n 0, 1) := by decide +kernel
theorem d_L_storedUpTo_4 : decode c_L_storedUpTo 4 = .ok (.getfield 17, 3) := by decide +kernel
theorem d_L_storedUpTo_7 : decode c_L_storedUpTo 7 = .ok (.getfield 21, 3) := by decide +kernel
theorem d_L_storedUpTo_10 : decode c_L_storedUpTo 10 = .ok (.if_icmp .le (45), 3) := by decide +kernel
theorem d_L_storedUpTo_13 : decode c_L_storedUpTo 13 = .ok (.aload_n 0, 1) := by decide +kernel
theorem d_L_storedUpTo_14 : decode c_L_storedUpTo 14 = .ok (.iload_n 3, 1) := by decide +kernel
theorem d_L_storedUpTo_15 : decode c_L_storedUpTo 15 = .ok (.invokevirtual 41, 3) := by decide +kernel
theorem d_L_storedUpTo_18 : decode c_L_storedUpTo 18 = .ok (.astore 4, 2) := by decide +kernel
theorem d_L_storedUpTo_20 : decode c_L_storedUpTo 20 = .ok (.aload 4, 2) := by decide +kernel
theorem d_L_storedUpTo_22 : decode c_L_storedUpTo 22 = .ok (.ifnull (27), 3) := by decide +kernel
theorem d_L_storedUpTo_25 : decode c_L_storedUpTo 25 = .ok (.aload 4, 2) := by decide +kernel
theorem d_L_storedUpTo_27 : decode c_L_storedUpTo 27 = .ok (.getfield 46, 3) := by decide +kernel
theorem d_L_storedUpTo_30 : decode c_L_storedUpTo 30 = .ok (.iconst 1, 1) := by decide +kernel
theorem d_L_storedUpTo_31 : decode c_L_storedUpTo 31 = .ok (.if_icmp .ne (18), 3) := by decide +kernel
theorem d_L_storedUpTo_34 : decode c_L_storedUpTo 34 = .ok (.aload 4, 2) := by decide +kernel
theorem d_L_storedUpTo_36 : decode c_L_storedUpTo 36 = .ok (.getfield 58, 3) := by decide +kernel
theorem d_L_storedUpTo_39 : decode c_L_storedUpTo 39 = .ok (.iload_n 2, 1) := by decide +kernel
theorem d_L_storedUpTo_40 : decode c_L_storedUpTo 40 = .ok (.if_icmp .ne (9), 3) := by decide +kernel
theorem d_L_storedUpTo_43 : decode c_L_storedUpTo 43 = .ok (.aload 4, 2) := by decide +kernel
theorem d_L_storedUpTo_45 : decode c_L_storedUpTo 45 = .ok (.getfield 61, 3) := by decide +kernel
theorem d_L_storedUpTo_48 : decode c_L_storedUpTo 48 = .ok (.ireturn, 1) := by decide +kernel
theorem d_L_storedUpTo_49 : decode c_L_storedUpTo 49 = .ok (.iinc 3 (-1), 3) := by decide +kernel
theorem d_L_storedUpTo_52 : decode c_L_storedUpTo 52 = .ok (.goto (-50), 3) := by decide +kernel
theorem d_L_storedUpTo_55 : decode c_L_storedUpTo 55 = .ok (.aload_n 0, 1) := by decide +kernel
theorem d_L_storedUpTo_56 : decode c_L_storedUpTo 56 = .ok (.getfield 17, 3) := by decide +kernel
theorem d_L_storedUpTo_59 : decode c_L_storedUpTo 59 = .ok (.getfield 64, 3) := by decide +kernel
theorem d_L_storedUpTo_62 : decode c_L_storedUpTo 62 = .ok (.iload_n 2, 1) := by decide +kernel
theorem d_L_storedUpTo_63 : decode c_L_storedUpTo 63 = .ok (.iaload, 1) := by decide +kernel
theorem d_L_storedUpTo_64 : decode c_L_storedUpTo 64 = .ok (.ireturn, 1) := by decide +kernel
theorem d_L_beginBehind_0 : decode c_L_beginBehind 0 = .ok (.aload_n 0, 1) := by decide +kernel
theorem d_L_beginBehind_1 : decode c_L_beginBehind 1 = .ok (.aload_n 1, 1) := by decide +kernel
theorem d_L_beginBehind_2 : decode c_L_beginBehind 2 = .ok (.getfield 21, 3) := by decide +kernel
theorem d_L_beginBehind_5 : decode c_L_beginBehind 5 = .ok (.invokevirtual 34, 3) := by decide +kernel
theorem d_L_beginBehind_8 : decode c_L_beginBehind 8 = .ok (.istore_n 2, 1) := by decide +kernel
theorem d_L_beginBehind_9 : decode c_L_beginBehind 9 = .ok (.iload_n 2, 1) := by decide +kernel
theorem d_L_beginBehind_10 : decode c_L_beginBehind 10 = .ok (.iconst (-1), 1) := by decide +kernel
theorem d_L_beginBehind_11 : decode c_L_beginBehind 11 = .ok (.if_icmp .eq (23), 3) := by decide +kernel
theorem d_L_beginBehind_14 : decode c_L_beginBehind 14 = .ok (.iload_n 2, 1) := by decide +kernel
theorem d_L_beginBehind_15 : decode c_L_beginBehind 15 = .ok (.aload_n 1, 1) := by decide +kernel
theorem d_L_beginBehind_16 : decode c_L_beginBehind 16 = .ok (.getfield 38, 3) := by decide +kernel
theorem d_L_beginBehind_19 : decode c_L_beginBehind 19 = .ok (.if_icmp .ne (15), 3) := by decide +kernel
theorem d_L_beginBehind_22 : decode c_L_beginBehind 22 = .ok (.aload_n 0, 1) := by decide +kernel
theorem d_L_beginBehind_23 : decode c_L_beginBehind 23 = .ok (.invokevirtual 30, 3) := by decide +kernel
theorem d_L_beginBehind_26 : decode c_L_beginBehind 26 = .ok (.aload_n 1, 1) := by decide +kernel
theorem d_L_beginBehind_27 : decode c_L_beginBehind 27 = .ok (.getfield 21, 3) := by decide +kernel
theorem d_L_beginBehind_30 : decode c_L_beginBehind 30 = .ok (.isub, 1) := by decide +kernel
theorem d_L_beginBehind_31 : decode c_L_beginBehind 31 = .ok (.goto (4), 3) := by decide +kernel
theorem d_L_beginBehind_34 : decode c_L_beginBehind 34 = .ok (.iconst 0, 1) := by decide +kernel
theorem d_L_beginBehind_35 : decode c_L_beginBehind 35 = .ok (.istore_n 3, 1) := by decide +kernel
theorem d_L_beginBehind_36 : decode c_L_beginBehind 36 = .ok (.aload_n 0, 1) := by decide +kernel
theorem d_L_beginBehind_37 : decode c_L_beginBehind 37 = .ok (.getfield 27, 3) := by decide +kernel
theorem d_L_beginBehind_40 : decode c_L_beginBehind 40 = .ok (.iload_n 3, 1) := by decide +kernel
theorem d_L_beginBehind_41 : decode c_L_beginBehind 41 = .ok (.isub, 1) := by decide +kernel
theorem d_L_beginBehind_42 : decode c_L_beginBehind 42 = .ok (.istore 4, 2) := by decide +kernel
theorem d_L_beginBehind_44 : decode c_L_beginBehind 44 = .ok (.iconst 0, 1) := by decide +kernel
theorem d_L_beginBehind_45 : decode c_L_beginBehind 45 = .ok (.istore 5, 2) := by decide +kernel
theorem d_L_beginBehind_47 : decode c_L_beginBehind 47 = .ok (.iload 5, 2) := by decide +kernel
theorem d_L_beginBehind_49 : decode c_L_beginBehind 49 = .ok (.iload_n 3, 1) := by decide +kernel
theorem d_L_beginBehind_50 : decode c_L_beginBehind 50 = .ok (.if_icmp .ge (26), 3) := by decide +kernel
theorem d_L_beginBehind_53 : decode c_L_beginBehind 53 = .ok (.aload_n 0, 1) := by decide +kernel
theorem d_L_beginBehind_54 : decode c_L_beginBehind 54 = .ok (.getfield 11, 3) := by decide +kernel
theorem d_L_beginBehind_57 : decode c_L_beginBehind 57 = .ok (.iload 5, 2) := by decide +kernel
theorem d_L_beginBehind_59 : decode c_L_beginBehind 59 = .ok (.aload_n 0, 1) := by decide +kernel
theorem d_L_beginBehind_60 : decode c_L_beginBehind 60 = .ok (.getfield 11, 3) := by decide +kernel
theorem d_L_beginBehind_63 : decode c_L_beginBehind 63 = .ok (.iload 5, 2) := by decide +kernel
theorem d_L_beginBehind_65 : decode c_L_beginBehind 65 = .ok (.iload 4, 2) := by decide +kernel
theorem d_L_beginBehind_67 : decode c_L_beginBehind 67 = .ok (.iadd, 1) := by decide +kernel
theorem d_L_beginBehind_68 : decode c_L_beginBehind 68 = .ok (.aaload, 1) := by decide +kernel
theorem d_L_beginBehind_69 : decode c_L_beginBehind 69 = .ok (.aastore, 1) := by decide +kernel
theorem d_L_beginBehind_70 : decode c_L_beginBehind 70 = .ok (.iinc 5 (1), 3) := by decide +kernel
theorem d_L_beginBehind_73 : decode c_L_beginBehind 73 = .ok (.goto (-26), 3) := by decide +kernel
theorem d_L_beginBehind_76 : decode c_L_beginBehind 76 = .ok (.aload_n 0, 1) := by decide +kernel
theorem d_L_beginBehind_77 : decode c_L_beginBehind 77 = .ok (.iload_n 3, 1) := by decide +kernel
theorem d_L_beginBehind_78 : decode c_L_beginBehind 78 = .ok (.putfield 27, 3) := by decide +kernel
theorem d_L_beginBehind_81 : decode c_L_beginBehind 81 = .ok (.aload_n 0, 1) := by decide +kernel
theorem d_L_beginBehind_82 : decode c_L_beginBehind 82 = .ok (.aload_n 1, 1) := by decide +kernel
theorem d_L_beginBehind_83 : decode c_L_beginBehind 83 = .ok (.putfield 17, 3) := by decide +kernel
theorem d_L_beginBehind_86 : decode c_L_beginBehind 86 = .ok (.return_, 1) := by decide +kernel
theorem d_W_holds_0 : decode c_W_holds 0 = .ok (.iload_n 1, 1) := by decide +kernel
theorem d_W_holds_1 : decode c_W_holds 1 = .ok (.ifCond .lt (15), 3) := by decide +kernel
theorem d_W_holds_4 : decode c_W_holds 4 = .ok (.iload_n 1, 1) := by decide +kernel
theorem d_W_holds_5 : decode c_W_holds 5 = .ok (.aload_n 0, 1) := by decide +kernel
theorem d_W_holds_6 : decode c_W_holds 6 = .ok (.getfield 24, 3) := by decide +kernel
theorem d_W_holds_9 : decode c_W_holds 9 = .ok (.if_icmp .ge (7), 3) := by decide +kernel
theorem d_W_holds_12 : decode c_W_holds 12 = .ok (.iconst 1, 1) := by decide +kernel
theorem d_W_holds_13 : decode c_W_holds 13 = .ok (.goto (4), 3) := by decide +kernel
theorem d_W_holds_16 : decode c_W_holds 16 = .ok (.iconst 0, 1) := by decide +kernel
theorem d_W_holds_17 : decode c_W_holds 17 = .ok (.ireturn, 1) := by decide +kernel
theorem d_W_take_0 : decode c_W_take 0 = .ok (.aload_n 0, 1) := by decide +kernel
theorem d_W_take_1 : decode c_W_take 1 = .ok (.getfield 20, 3) := by decide +kernel
theorem d_W_take_4 : decode c_W_take 4 = .ok (.astore_n 2, 1) := by decide +kernel
theorem d_W_take_5 : decode c_W_take 5 = .ok (.aload_n 0, 1) := by decide +kernel
theorem d_W_take_6 : decode c_W_take 6 = .ok (.aload_n 0, 1) := by decide +kernel
theorem d_W_take_7 : decode c_W_take 7 = .ok (.getfield 11, 3) := by decide +kernel
theorem d_W_take_10 : decode c_W_take 10 = .ok (.iload_n 1, 1) := by decide +kernel
theorem d_W_take_11 : decode c_W_take 11 = .ok (.aaload, 1) := by decide +kernel
theorem d_W_take_12 : decode c_W_take 12 = .ok (.putfield 20, 3) := by decide +kernel
theorem d_W_take_15 : decode c_W_take 15 = .ok (.aload_n 0, 1) := by decide +kernel
theorem d_W_take_16 : decode c_W_take 16 = .ok (.dup, 1) := by decide +kernel
theorem d_W_take_17 : decode c_W_take 17 = .ok (.getfield 24, 3) := by decide +kernel
theorem d_W_take_20 : decode c_W_take 20 = .ok (.iconst 1, 1) := by decide +kernel
theorem d_W_take_21 : decode c_W_take 21 = .ok (.isub, 1) := by decide +kernel
theorem d_W_take_22 : decode c_W_take 22 = .ok (.putfield 24, 3) := by decide +kernel
theorem d_W_take_25 : decode c_W_take 25 = .ok (.iload_n 1, 1) := by decide +kernel
theorem d_W_take_26 : decode c_W_take 26 = .ok (.istore_n 3, 1) := by decide +kernel
theorem d_W_take_27 : decode c_W_take 27 = .ok (.iload_n 3, 1) := by decide +kernel
theorem d_W_take_28 : decode c_W_take 28 = .ok (.aload_n 0, 1) := by decide +kernel
theorem d_W_take_29 : decode c_W_take 29 = .ok (.getfield 24, 3) := by decide +kernel
theorem d_W_take_32 : decode c_W_take 32 = .ok (.if_icmp .ge (23), 3) := by decide +kernel
theorem d_W_take_35 : decode c_W_take 35 = .ok (.aload_n 0, 1) := by decide +kernel
theorem d_W_take_36 : decode c_W_take 36 = .ok (.getfield 11, 3) := by decide +kernel
theorem d_W_take_39 : decode c_W_take 39 = .ok (.iload_n 3, 1) := by decide +kernel
theorem d_W_take_40 : decode c_W_take 40 = .ok (.aload_n 0, 1) := by decide +kernel
theorem d_W_take_41 : decode c_W_take 41 = .ok (.getfield 11, 3) := by decide +kernel
theorem d_W_take_44 : decode c_W_take 44 = .ok (.iload_n 3, 1) := by decide +kernel
theorem d_W_take_45 : decode c_W_take 45 = .ok (.iconst 1, 1) := by decide +kernel
theorem d_W_take_46 : decode c_W_take 46 = .ok (.iadd, 1) := by decide +kernel
theorem d_W_take_47 : decode c_W_take 47 = .ok (.aaload, 1) := by decide +kernel
theorem d_W_take_48 : decode c_W_take 48 = .ok (.aastore, 1) := by decide +kernel
theorem d_W_take_49 : decode c_W_take 49 = .ok (.iinc 3 (1), 3) := by decide +kernel
theorem d_W_take_52 : decode c_W_take 52 = .ok (.goto (-25), 3) := by decide +kernel
theorem d_W_take_55 : decode c_W_take 55 = .ok (.aload_n 0, 1) := by decide +kernel
theorem d_W_take_56 : decode c_W_take 56 = .ok (.getfield 11, 3) := by decide +kernel
theorem d_W_take_59 : decode c_W_take 59 = .ok (.aload_n 0, 1) := by decide +kernel
theorem d_W_take_60 : decode c_W_take 60 = .ok (.getfield 24, 3) := by decide +kernel
theorem d_W_take_63 : decode c_W_take 63 = .ok (.aload_n 2, 1) := by decide +kernel
theorem d_W_take_64 : decode c_W_take 64 = .ok (.aastore, 1) := by decide +kernel
theorem d_W_take_65 : decode c_W_take 65 = .ok (.aload_n 0, 1) := by decide +kernel
theorem d_W_take_66 : decode c_W_take 66 = .ok (.getfield 20, 3) := by decide +kernel
theorem d_W_take_69 : decode c_W_take 69 = .ok (.areturn, 1) := by decide +kernel
theorem d_L_isBehindOf_0 : decode c_L_isBehindOf 0 = .ok (.aload_n 0, 1) := by decide +kernel
theorem d_L_isBehindOf_1 : decode c_L_isBehindOf 1 = .ok (.invokevirtual 68, 3) := by decide +kernel
theorem d_L_isBehindOf_4 : decode c_L_isBehindOf 4 = .ok (.istore_n 2, 1) := by decide +kernel
theorem d_L_isBehindOf_5 : decode c_L_isBehindOf 5 = .ok (.aload_n 1, 1) := by decide +kernel
theorem d_L_isBehindOf_6 : decode c_L_isBehindOf 6 = .ok (.getfield 71, 3) := by decide +kernel
theorem d_L_isBehindOf_9 : decode c_L_isBehindOf 9 = .ok (.iload_n 2, 1) := by decide +kernel
theorem d_L_isBehindOf_10 : decode c_L_isBehindOf 10 = .ok (.if_icmp .lt (22), 3) := by decide +kernel
theorem d_L_isBehindOf_13 : decode c_L_isBehindOf 13 = .ok (.aload_n 1, 1) := by decide +kernel
theorem d_L_isBehindOf_14 : decode c_L_isBehindOf 14 = .ok (.getfield 71, 3) := by decide +kernel
theorem d_L_isBehindOf_17 : decode c_L_isBehindOf 17 = .ok (.iload_n 2, 1) := by decide +kernel
theorem d_L_isBehindOf_18 : decode c_L_isBehindOf 18 = .ok (.if_icmp .ne (18), 3) := by decide +kernel
theorem d_L_isBehindOf_21 : decode c_L_isBehindOf 21 = .ok (.aload_n 1, 1) := by decide +kernel
theorem d_L_isBehindOf_22 : decode c_L_isBehindOf 22 = .ok (.getfield 76, 3) := by decide +kernel
theorem d_L_isBehindOf_25 : decode c_L_isBehindOf 25 = .ok (.aload_n 0, 1) := by decide +kernel
theorem d_L_isBehindOf_26 : decode c_L_isBehindOf 26 = .ok (.invokevirtual 30, 3) := by decide +kernel
theorem d_L_isBehindOf_29 : decode c_L_isBehindOf 29 = .ok (.if_icmp .ge (7), 3) := by decide +kernel
theorem d_L_isBehindOf_32 : decode c_L_isBehindOf 32 = .ok (.iconst 1, 1) := by decide +kernel
theorem d_L_isBehindOf_33 : decode c_L_isBehindOf 33 = .ok (.goto (4), 3) := by decide +kernel
theorem d_L_isBehindOf_36 : decode c_L_isBehindOf 36 = .ok (.iconst 0, 1) := by decide +kernel
theorem d_L_isBehindOf_37 : decode c_L_isBehindOf 37 = .ok (.ireturn, 1) := by decide +kernel
theorem d_L_fitsBehind_0 : decode c_L_fitsBehind 0 = .ok (.iload_n 1, 1) := by decide +kernel
theorem d_L_fitsBehind_1 : decode c_L_fitsBehind 1 = .ok (.aload_n 0, 1) := by decide +kernel
theorem d_L_fitsBehind_2 : decode c_L_fitsBehind 2 = .ok (.invokevirtual 30, 3) := by decide +kernel
theorem d_L_fitsBehind_5 : decode c_L_fitsBehind 5 = .ok (.if_icmp .gt (27), 3) := by decide +kernel
theorem d_L_fitsBehind_8 : decode c_L_fitsBehind 8 = .ok (.iload_n 1, 1) := by decide +kernel
theorem d_L_fitsBehind_9 : decode c_L_fitsBehind 9 = .ok (.aload_n 0, 1) := by decide +kernel
theorem d_L_fitsBehind_10 : decode c_L_fitsBehind 10 = .ok (.getfield 17, 3) := by decide +kernel
theorem d_L_fitsBehind_13 : decode c_L_fitsBehind 13 = .ok (.getfield 21, 3) := by decide +kernel
theorem d_L_fitsBehind_16 : decode c_L_fitsBehind 16 = .ok (.if_icmp .lt (12), 3) := by decide +kernel
theorem d_L_fitsBehind_19 : decode c_L_fitsBehind 19 = .ok (.aload_n 0, 1) := by decide +kernel
theorem d_L_fitsBehind_20 : decode c_L_fitsBehind 20 = .ok (.iload_n 1, 1) := by decide +kernel
theorem d_L_fitsBehind_21 : decode c_L_fitsBehind 21 = .ok (.invokevirtual 34, 3) := by decide +kernel
theorem d_L_fitsBehind_24 : decode c_L_fitsBehind 24 = .ok (.iload_n 2, 1) := by decide +kernel
theorem d_L_fitsBehind_25 : decode c_L_fitsBehind 25 = .ok (.if_icmp .ne (7), 3) := by decide +kernel
theorem d_L_fitsBehind_28 : decode c_L_fitsBehind 28 = .ok (.iconst 1, 1) := by decide +kernel
theorem d_L_fitsBehind_29 : decode c_L_fitsBehind 29 = .ok (.goto (4), 3) := by decide +kernel
theorem d_L_fitsBehind_32 : decode c_L_fitsBehind 32 = .ok (.iconst 0, 1) := by decide +kernel
theorem d_L_fitsBehind_33 : decode c_L_fitsBehind 33 = .ok (.ireturn, 1) := by decide +kernel
theorem d_L_takeOver_0 : decode c_L_takeOver 0 = .ok (.iconst 0, 1) := by decide +kernel
theorem d_L_takeOver_1 : decode c_L_takeOver 1 = .ok (.istore_n 2, 1) := by decide +kernel
theorem d_L_takeOver_2 : decode c_L_takeOver 2 = .ok (.iload_n 2, 1) := by decide +kernel
theorem d_L_takeOver_3 : decode c_L_takeOver 3 = .ok (.aload_n 1, 1) := by decide +kernel
theorem d_L_takeOver_4 : decode c_L_takeOver 4 = .ok (.getfield 77, 3) := by decide +kernel
theorem d_L_takeOver_7 : decode c_L_takeOver 7 = .ok (.if_icmp .ge (47), 3) := by decide +kernel
theorem d_L_takeOver_10 : decode c_L_takeOver 10 = .ok (.aload_n 1, 1) := by decide +kernel
theorem d_L_takeOver_11 : decode c_L_takeOver 11 = .ok (.getfield 76, 3) := by decide +kernel
theorem d_L_takeOver_14 : decode c_L_takeOver 14 = .ok (.iconst 1, 1) := by decide +kernel
theorem d_L_takeOver_15 : decode c_L_takeOver 15 = .ok (.iadd, 1) := by decide +kernel
theorem d_L_takeOver_16 : decode c_L_takeOver 16 = .ok (.iload_n 2, 1) := by decide +kernel
theorem d_L_takeOver_17 : decode c_L_takeOver 17 = .ok (.iadd, 1) := by decide +kernel
theorem d_L_takeOver_18 : decode c_L_takeOver 18 = .ok (.istore_n 3, 1) := by decide +kernel
theorem d_L_takeOver_19 : decode c_L_takeOver 19 = .ok (.iload_n 3, 1) := by decide +kernel
theorem d_L_takeOver_20 : decode c_L_takeOver 20 = .ok (.aload_n 0, 1) := by decide +kernel
theorem d_L_takeOver_21 : decode c_L_takeOver 21 = .ok (.getfield 17, 3) := by decide +kernel
theorem d_L_takeOver_24 : decode c_L_takeOver 24 = .ok (.getfield 21, 3) := by decide +kernel
theorem d_L_takeOver_27 : decode c_L_takeOver 27 = .ok (.if_icmp .le (21), 3) := by decide +kernel
theorem d_L_takeOver_30 : decode c_L_takeOver 30 = .ok (.aload_n 0, 1) := by decide +kernel
theorem d_L_takeOver_31 : decode c_L_takeOver 31 = .ok (.iload_n 3, 1) := by decide +kernel
theorem d_L_takeOver_32 : decode c_L_takeOver 32 = .ok (.aload_n 1, 1) := by decide +kernel
theorem d_L_takeOver_33 : decode c_L_takeOver 33 = .ok (.getfield 80, 3) := by decide +kernel
theorem d_L_takeOver_36 : decode c_L_takeOver 36 = .ok (.iload_n 2, 1) := by decide +kernel
theorem d_L_takeOver_37 : decode c_L_takeOver 37 = .ok (.aaload, 1) := by decide +kernel
theorem d_L_takeOver_38 : decode c_L_takeOver 38 = .ok (.invokevirtual 81, 3) := by decide +kernel
theorem d_L_takeOver_41 : decode c_L_takeOver 41 = .ok (.ifCond .ne (7), 3) := by decide +kernel
theorem d_L_takeOver_44 : decode c_L_takeOver 44 = .ok (.iload_n 3, 1) := by decide +kernel
theorem d_L_takeOver_45 : decode c_L_takeOver 45 = .ok (.iconst 1, 1) := by decide +kernel
theorem d_L_takeOver_46 : decode c_L_takeOver 46 = .ok (.isub, 1) := by decide +kernel
theorem d_L_takeOver_47 : decode c_L_takeOver 47 = .ok (.ireturn, 1) := by decide +kernel
theorem d_L_takeOver_48 : decode c_L_takeOver 48 = .ok (.iinc 2 (1), 3) := by decide +kernel
theorem d_L_takeOver_51 : decode c_L_takeOver 51 = .ok (.goto (-49), 3) := by decide +kernel
theorem d_L_takeOver_54 : decode c_L_takeOver 54 = .ok (.aload_n 1, 1) := by decide +kernel
theorem d_L_takeOver_55 : decode c_L_takeOver 55 = .ok (.getfield 76, 3) := by decide +kernel
theorem d_L_takeOver_58 : decode c_L_takeOver 58 = .ok (.aload_n 1, 1) := by decide +kernel
theorem d_L_takeOver_59 : decode c_L_takeOver 59 = .ok (.getfield 77, 3) := by decide +kernel
theorem d_L_takeOver_62 : decode c_L_takeOver 62 = .ok (.iadd, 1) := by decide +kernel
theorem d_L_takeOver_63 : decode c_L_takeOver 63 = .ok (.ireturn, 1) := by decide +kernel
theorem d_L_hasOrTakes_0 : decode c_L_hasOrTakes 0 = .ok (.aload_n 0, 1) := by decide +kernel
theorem d_L_hasOrTakes_1 : decode c_L_hasOrTakes 1 = .ok (.iload_n 1, 1) := by decide +kernel
theorem d_L_hasOrTakes_2 : decode c_L_hasOrTakes 2 = .ok (.invokevirtual 34, 3) := by decide +kernel
theorem d_L_hasOrTakes_5 : decode c_L_hasOrTakes 5 = .ok (.aload_n 2, 1) := by decide +kernel
theorem d_L_hasOrTakes_6 : decode c_L_hasOrTakes 6 = .ok (.getfield 45, 3) := by decide +kernel
theorem d_L_hasOrTakes_9 : decode c_L_hasOrTakes 9 = .ok (.if_icmp .ne (5), 3) := by decide +kernel
theorem d_L_hasOrTakes_12 : decode c_L_hasOrTakes 12 = .ok (.iconst 1, 1) := by decide +kernel
theorem d_L_hasOrTakes_13 : decode c_L_hasOrTakes 13 = .ok (.ireturn, 1) := by decide +kernel
theorem d_L_hasOrTakes_14 : decode c_L_hasOrTakes 14 = .ok (.aload_n 0, 1) := by decide +kernel
theorem d_L_hasOrTakes_15 : decode c_L_hasOrTakes 15 = .ok (.iload_n 1, 1) := by decide +kernel
theorem d_L_hasOrTakes_16 : decode c_L_hasOrTakes 16 = .ok (.invokevirtual 85, 3) := by decide +kernel
theorem d_L_hasOrTakes_19 : decode c_L_hasOrTakes 19 = .ok (.aload_n 0, 1) := by decide +kernel
theorem d_L_hasOrTakes_20 : decode c_L_hasOrTakes 20 = .ok (.aload_n 2, 1) := by decide +kernel
theorem d_L_hasOrTakes_21 : decode c_L_hasOrTakes 21 = .ok (.invokevirtual 89, 3) := by decide +kernel
theorem d_L_hasOrTakes_24 : decode c_L_hasOrTakes 24 = .ok (.ireturn, 1) := by decide +kernel
theorem d_L_cutFrom_0 : decode c_L_cutFrom 0 = .ok (.iload_n 1, 1) := by decide +kernel
theorem d_L_cutFrom_1 : decode c_L_cutFrom 1 = .ok (.aload_n 0, 1) := by decide +kernel
theorem d_L_cutFrom_2 : decode c_L_cutFrom 2 = .ok (.getfield 17, 3) := by decide +kernel
theorem d_L_cutFrom_5 : decode c_L_cutFrom 5 = .ok (.getfield 21, 3) := by decide +kernel
theorem d_L_cutFrom_8 : decode c_L_cutFrom 8 = .ok (.isub, 1) := by decide +kernel
theorem d_L_cutFrom_9 : decode c_L_cutFrom 9 = .ok (.iconst 1, 1) := by decide +kernel
theorem d_L_cutFrom_10 : decode c_L_cutFrom 10 = .ok (.isub, 1) := by decide +kernel
theorem d_L_cutFrom_11 : decode c_L_cutFrom 11 = .ok (.istore_n 2, 1) := by decide +kernel
theorem d_L_cutFrom_12 : decode c_L_cutFrom 12 = .ok (.iload_n 2, 1) := by decide +kernel
theorem d_L_cutFrom_13 : decode c_L_cutFrom 13 = .ok (.ifCond .lt (16), 3) := by decide +kernel
theorem d_L_cutFrom_16 : decode c_L_cutFrom 16 = .ok (.iload_n 2, 1) := by decide +kernel
theorem d_L_cutFrom_17 : decode c_L_cutFrom 17 = .ok (.aload_n 0, 1) := by decide +kernel
theorem d_L_cutFrom_18 : decode c_L_cutFrom 18 = .ok (.getfield 27, 3) := by decide +kernel
theorem d_L_cutFrom_21 : decode c_L_cutFrom 21 = .ok (.if_icmp .ge (8), 3) := by decide +kernel
theorem d_L_cutFrom_24 : decode c_L_cutFrom 24 = .ok (.aload_n 0, 1) := by decide +kernel
theorem d_L_cutFrom_25 : decode c_L_cutFrom 25 = .ok (.iload_n 2, 1) := by decide +kernel
theorem d_L_cutFrom_26 : decode c_L_cutFrom 26 = .ok (.putfield 27, 3) := by decide +kernel
theorem d_L_cutFrom_29 : decode c_L_cutFrom 29 = .ok (.return_, 1) := by decide +kernel
theorem d_S_confirmersOf_0 : decode c_S_confirmersOf 0 = .ok (.aload_n 0, 1) := by decide +kernel
theorem d_S_confirmersOf_1 : decode c_S_confirmersOf 1 = .ok (.aload_n 0, 1) := by decide +kernel
theorem d_S_confirmersOf_2 : decode c_S_confirmersOf 2 = .ok (.getfield 18, 3) := by decide +kernel
theorem d_S_confirmersOf_5 : decode c_S_confirmersOf 5 = .ok (.iload_n 1, 1) := by decide +kernel
theorem d_S_confirmersOf_6 : decode c_S_confirmersOf 6 = .ok (.invokevirtual 69, 3) := by decide +kernel
theorem d_S_confirmersOf_9 : decode c_S_confirmersOf 9 = .ok (.ireturn, 1) := by decide +kernel
theorem d_S_storedNow_0 : decode c_S_storedNow 0 = .ok (.aload_n 0, 1) := by decide +kernel
theorem d_S_storedNow_1 : decode c_S_storedNow 1 = .ok (.getfield 40, 3) := by decide +kernel
theorem d_S_storedNow_4 : decode c_S_storedNow 4 = .ok (.aload_n 0, 1) := by decide +kernel
theorem d_S_storedNow_5 : decode c_S_storedNow 5 = .ok (.getfield 55, 3) := by decide +kernel
theorem d_S_storedNow_8 : decode c_S_storedNow 8 = .ok (.iload_n 1, 1) := by decide +kernel
theorem d_S_storedNow_9 : decode c_S_storedNow 9 = .ok (.invokevirtual 65, 3) := by decide +kernel
theorem d_S_storedNow_12 : decode c_S_storedNow 12 = .ok (.ireturn, 1) := by decide +kernel
theorem d_S_hasCommitOfItsTerm_0 : decode c_S_hasCommitOfItsTerm 0 = .ok (.aload_n 0, 1) := by decide +kernel
theorem d_S_hasCommitOfItsTerm_1 : decode c_S_hasCommitOfItsTerm 1 = .ok (.getfield 40, 3) := by decide +kernel
theorem d_S_hasCommitOfItsTerm_4 : decode c_S_hasCommitOfItsTerm 4 = .ok (.aload_n 0, 1) := by decide +kernel
theorem d_S_hasCommitOfItsTerm_5 : decode c_S_hasCommitOfItsTerm 5 = .ok (.getfield 55, 3) := by decide +kernel
theorem d_S_hasCommitOfItsTerm_8 : decode c_S_hasCommitOfItsTerm 8 = .ok (.invokevirtual 58, 3) := by decide +kernel
theorem d_S_hasCommitOfItsTerm_11 : decode c_S_hasCommitOfItsTerm 11 = .ok (.aload_n 0, 1) := by decide +kernel
theorem d_S_hasCommitOfItsTerm_12 : decode c_S_hasCommitOfItsTerm 12 = .ok (.getfield 62, 3) := by decide +kernel
theorem d_S_hasCommitOfItsTerm_15 : decode c_S_hasCommitOfItsTerm 15 = .ok (.if_icmp .ne (7), 3) := by decide +kernel
theorem d_S_hasCommitOfItsTerm_18 : decode c_S_hasCommitOfItsTerm 18 = .ok (.iconst 1, 1) := by decide +kernel
theorem d_S_hasCommitOfItsTerm_19 : decode c_S_hasCommitOfItsTerm 19 = .ok (.goto (4), 3) := by decide +kernel
theorem d_S_hasCommitOfItsTerm_22 : decode c_S_hasCommitOfItsTerm 22 = .ok (.iconst 0, 1) := by decide +kernel
theorem d_S_hasCommitOfItsTerm_23 : decode c_S_hasCommitOfItsTerm 23 = .ok (.ireturn, 1) := by decide +kernel
theorem d_R_keptBy_0 : decode c_R_keptBy 0 = .ok (.iconst 0, 1) := by decide +kernel
theorem d_R_keptBy_1 : decode c_R_keptBy 1 = .ok (.istore_n 2, 1) := by decide +kernel
theorem d_R_keptBy_2 : decode c_R_keptBy 2 = .ok (.iconst 0, 1) := by decide +kernel
theorem d_R_keptBy_3 : decode c_R_keptBy 3 = .ok (.istore_n 3, 1) := by decide +kernel
theorem d_R_keptBy_4 : decode c_R_keptBy 4 = .ok (.iload_n 3, 1) := by decide +kernel
theorem d_R_keptBy_5 : decode c_R_keptBy 5 = .ok (.aload_n 0, 1) := by decide +kernel
theorem d_R_keptBy_6 : decode c_R_keptBy 6 = .ok (.getfield 27, 3) := by decide +kernel
theorem d_R_keptBy_9 : decode c_R_keptBy 9 = .ok (.if_icmp .ge (21), 3) := by decide +kernel
theorem d_R_keptBy_12 : decode c_R_keptBy 12 = .ok (.aload_n 0, 1) := by decide +kernel
theorem d_R_keptBy_13 : decode c_R_keptBy 13 = .ok (.iload_n 3, 1) := by decide +kernel
theorem d_R_keptBy_14 : decode c_R_keptBy 14 = .ok (.iload_n 1, 1) := by decide +kernel
theorem d_R_keptBy_15 : decode c_R_keptBy 15 = .ok (.invokevirtual 31, 3) := by decide +kernel
theorem d_R_keptBy_18 : decode c_R_keptBy 18 = .ok (.ifCond .eq (6), 3) := by decide +kernel
theorem d_R_keptBy_21 : decode c_R_keptBy 21 = .ok (.iinc 2 (1), 3) := by decide +kernel
theorem d_R_keptBy_24 : decode c_R_keptBy 24 = .ok (.iinc 3 (1), 3) := by decide +kernel
theorem d_R_keptBy_27 : decode c_R_keptBy 27 = .ok (.goto (-23), 3) := by decide +kernel
theorem d_R_keptBy_30 : decode c_R_keptBy 30 = .ok (.iload_n 2, 1) := by decide +kernel
theorem d_R_keptBy_31 : decode c_R_keptBy 31 = .ok (.ireturn, 1) := by decide +kernel
theorem d_R_keep_0 : decode c_R_keep 0 = .ok (.aload_n 0, 1) := by decide +kernel
theorem d_R_keep_1 : decode c_R_keep 1 = .ok (.getfield 27, 3) := by decide +kernel
theorem d_R_keep_4 : decode c_R_keep 4 = .ok (.istore 4, 2) := by decide +kernel
theorem d_R_keep_6 : decode c_R_keep 6 = .ok (.iload 4, 2) := by decide +kernel
theorem d_R_keep_8 : decode c_R_keep 8 = .ok (.bipush (60), 2) := by decide +kernel
theorem d_R_keep_10 : decode c_R_keep 10 = .ok (.if_icmp .ge (37), 3) := by decide +kernel
theorem d_R_keep_13 : decode c_R_keep 13 = .ok (.aload_n 0, 1) := by decide +kernel
theorem d_R_keep_14 : decode c_R_keep 14 = .ok (.getfield 9, 3) := by decide +kernel
theorem d_R_keep_17 : decode c_R_keep 17 = .ok (.iload 4, 2) := by decide +kernel
theorem d_R_keep_19 : decode c_R_keep 19 = .ok (.iload_n 1, 1) := by decide +kernel
theorem d_R_keep_20 : decode c_R_keep 20 = .ok (.iastore, 1) := by decide +kernel
theorem d_R_keep_21 : decode c_R_keep 21 = .ok (.aload_n 0, 1) := by decide +kernel
theorem d_R_keep_22 : decode c_R_keep 22 = .ok (.getfield 15, 3) := by decide +kernel
theorem d_R_keep_25 : decode c_R_keep 25 = .ok (.iload 4, 2) := by decide +kernel
theorem d_R_keep_27 : decode c_R_keep 27 = .ok (.iload_n 2, 1) := by decide +kernel
theorem d_R_keep_28 : decode c_R_keep 28 = .ok (.iastore, 1) := by decide +kernel
theorem d_R_keep_29 : decode c_R_keep 29 = .ok (.aload_n 0, 1) := by decide +kernel
theorem d_R_keep_30 : decode c_R_keep 30 = .ok (.getfield 18, 3) := by decide +kernel
theorem d_R_keep_33 : decode c_R_keep 33 = .ok (.iload 4, 2) := by decide +kernel
theorem d_R_keep_35 : decode c_R_keep 35 = .ok (.iload_n 3, 1) := by decide +kernel
theorem d_R_keep_36 : decode c_R_keep 36 = .ok (.iastore, 1) := by decide +kernel
theorem d_R_keep_37 : decode c_R_keep 37 = .ok (.aload_n 0, 1) := by decide +kernel
theorem d_R_keep_38 : decode c_R_keep 38 = .ok (.dup, 1) := by decide +kernel
theorem d_R_keep_39 : decode c_R_keep 39 = .ok (.getfield 27, 3) := by decide +kernel
theorem d_R_keep_42 : decode c_R_keep 42 = .ok (.iconst 1, 1) := by decide +kernel
theorem d_R_keep_43 : decode c_R_keep 43 = .ok (.iadd, 1) := by decide +kernel
theorem d_R_keep_44 : decode c_R_keep 44 = .ok (.putfield 27, 3) := by decide +kernel
theorem d_R_keep_47 : decode c_R_keep 47 = .ok (.iload 4, 2) := by decide +kernel
theorem d_R_keep_49 : decode c_R_keep 49 = .ok (.ireturn, 1) := by decide +kernel
theorem d_I_bitCount_0 : decode c_I_bitCount 0 = .ok (.iload_n 0, 1) := by decide +kernel
theorem d_I_bitCount_1 : decode c_I_bitCount 1 = .ok (.iload_n 0, 1) := by decide +kernel
theorem d_I_bitCount_2 : decode c_I_bitCount 2 = .ok (.iconst 1, 1) := by decide +kernel
theorem d_I_bitCount_3 : decode c_I_bitCount 3 = .ok (.iushr, 1) := by decide +kernel
theorem d_I_bitCount_4 : decode c_I_bitCount 4 = .ok (.ldc_w 265, 3) := by decide +kernel
theorem d_I_bitCount_7 : decode c_I_bitCount 7 = .ok (.iand, 1) := by decide +kernel
theorem d_I_bitCount_8 : decode c_I_bitCount 8 = .ok (.isub, 1) := by decide +kernel
theorem d_I_bitCount_9 : decode c_I_bitCount 9 = .ok (.istore_n 0, 1) := by decide +kernel
theorem d_I_bitCount_10 : decode c_I_bitCount 10 = .ok (.iload_n 0, 1) := by decide +kernel
theorem d_I_bitCount_11 : decode c_I_bitCount 11 = .ok (.ldc_w 266, 3) := by decide +kernel
theorem d_I_bitCount_14 : decode c_I_bitCount 14 = .ok (.iand, 1) := by decide +kernel
theorem d_I_bitCount_15 : decode c_I_bitCount 15 = .ok (.iload_n 0, 1) := by decide +kernel
theorem d_I_bitCount_16 : decode c_I_bitCount 16 = .ok (.iconst 2, 1) := by decide +kernel
theorem d_I_bitCount_17 : decode c_I_bitCount 17 = .ok (.iushr, 1) := by decide +kernel
theorem d_I_bitCount_18 : decode c_I_bitCount 18 = .ok (.ldc_w 266, 3) := by decide +kernel
theorem d_I_bitCount_21 : decode c_I_bitCount 21 = .ok (.iand, 1) := by decide +kernel
theorem d_I_bitCount_22 : decode c_I_bitCount 22 = .ok (.iadd, 1) := by decide +kernel
theorem d_I_bitCount_23 : decode c_I_bitCount 23 = .ok (.istore_n 0, 1) := by decide +kernel
theorem d_I_bitCount_24 : decode c_I_bitCount 24 = .ok (.iload_n 0, 1) := by decide +kernel
theorem d_I_bitCount_25 : decode c_I_bitCount 25 = .ok (.iload_n 0, 1) := by decide +kernel
theorem d_I_bitCount_26 : decode c_I_bitCount 26 = .ok (.iconst 4, 1) := by decide +kernel
theorem d_I_bitCount_27 : decode c_I_bitCount 27 = .ok (.iushr, 1) := by decide +kernel
theorem d_I_bitCount_28 : decode c_I_bitCount 28 = .ok (.iadd, 1) := by decide +kernel
theorem d_I_bitCount_29 : decode c_I_bitCount 29 = .ok (.ldc_w 267, 3) := by decide +kernel
theorem d_I_bitCount_32 : decode c_I_bitCount 32 = .ok (.iand, 1) := by decide +kernel
theorem d_I_bitCount_33 : decode c_I_bitCount 33 = .ok (.istore_n 0, 1) := by decide +kernel
theorem d_I_bitCount_34 : decode c_I_bitCount 34 = .ok (.iload_n 0, 1) := by decide +kernel
theorem d_I_bitCount_35 : decode c_I_bitCount 35 = .ok (.iload_n 0, 1) := by decide +kernel
theorem d_I_bitCount_36 : decode c_I_bitCount 36 = .ok (.bipush (8), 2) := by decide +kernel
theorem d_I_bitCount_38 : decode c_I_bitCount 38 = .ok (.iushr, 1) := by decide +kernel
theorem d_I_bitCount_39 : decode c_I_bitCount 39 = .ok (.iadd, 1) := by decide +kernel
theorem d_I_bitCount_40 : decode c_I_bitCount 40 = .ok (.istore_n 0, 1) := by decide +kernel
theorem d_I_bitCount_41 : decode c_I_bitCount 41 = .ok (.iload_n 0, 1) := by decide +kernel
theorem d_I_bitCount_42 : decode c_I_bitCount 42 = .ok (.iload_n 0, 1) := by decide +kernel
theorem d_I_bitCount_43 : decode c_I_bitCount 43 = .ok (.bipush (16), 2) := by decide +kernel
theorem d_I_bitCount_45 : decode c_I_bitCount 45 = .ok (.iushr, 1) := by decide +kernel
theorem d_I_bitCount_46 : decode c_I_bitCount 46 = .ok (.iadd, 1) := by decide +kernel
theorem d_I_bitCount_47 : decode c_I_bitCount 47 = .ok (.istore_n 0, 1) := by decide +kernel
theorem d_I_bitCount_48 : decode c_I_bitCount 48 = .ok (.iload_n 0, 1) := by decide +kernel
theorem d_I_bitCount_49 : decode c_I_bitCount 49 = .ok (.bipush (63), 2) := by decide +kernel
theorem d_I_bitCount_51 : decode c_I_bitCount 51 = .ok (.iand, 1) := by decide +kernel
theorem d_I_bitCount_52 : decode c_I_bitCount 52 = .ok (.ireturn, 1) := by decide +kernel
theorem d_H_min_0 : decode c_H_min 0 = .ok (.iload_n 0, 1) := by decide +kernel
theorem d_H_min_1 : decode c_H_min 1 = .ok (.iload_n 1, 1) := by decide +kernel
theorem d_H_min_2 : decode c_H_min 2 = .ok (.if_icmp .gt (7), 3) := by decide +kernel
theorem d_H_min_5 : decode c_H_min 5 = .ok (.iload_n 0, 1) := by decide +kernel
theorem d_H_min_6 : decode c_H_min 6 = .ok (.goto (4), 3) := by decide +kernel
theorem d_H_min_9 : decode c_H_min 9 = .ok (.iload_n 1, 1) := by decide +kernel
theorem d_H_min_10 : decode c_H_min 10 = .ok (.ireturn, 1) := by decide +kernel
theorem d_H_max_0 : decode c_H_max 0 = .ok (.iload_n 0, 1) := by decide +kernel
theorem d_H_max_1 : decode c_H_max 1 = .ok (.iload_n 1, 1) := by decide +kernel
theorem d_H_max_2 : decode c_H_max 2 = .ok (.if_icmp .lt (7), 3) := by decide +kernel
theorem d_H_max_5 : decode c_H_max 5 = .ok (.iload_n 0, 1) := by decide +kernel
theorem d_H_max_6 : decode c_H_max 6 = .ok (.goto (4), 3) := by decide +kernel
theorem d_H_max_9 : decode c_H_max 9 = .ok (.iload_n 1, 1) := by decide +kernel
theorem d_H_max_10 : decode c_H_max 10 = .ok (.ireturn, 1) := by decide +kernel
theorem oi_R_3 : Cond.methodLink "QuorumLog$Reads" 3 Lib.objectInit ∈ qu_W := qm_33
theorem fp_R_9 : qx_FP "QuorumLog$Reads" 9 4 0 (.array .int) true := ⟨"QuorumLog$Reads", T_R, 6, t_R, rfl, by decide, uw_R, qm_34, k_R, n_R, by decide +kernel, rfl, fun _ => rfl⟩
theorem fp_R_15 : qx_FP "QuorumLog$Reads" 15 4 1 (.array .int) true := ⟨"QuorumLog$Reads", T_R, 6, t_R, rfl, by decide, uw_R, qm_35, k_R, n_R, by decide +kernel, rfl, fun _ => rfl⟩
theorem fp_R_18 : qx_FP "QuorumLog$Reads" 18 4 2 (.array .int) true := ⟨"QuorumLog$Reads", T_R, 6, t_R, rfl, by decide, uw_R, qm_37, k_R, n_R, by decide +kernel, rfl, fun _ => rfl⟩
theorem fp_R_21 : qx_FP "QuorumLog$Reads" 21 4 3 (.array .int) true := ⟨"QuorumLog$Reads", T_R, 6, t_R, rfl, by decide, uw_R, qm_39, k_R, n_R, by decide +kernel, rfl, fun _ => rfl⟩
theorem fp_R_24 : qx_FP "QuorumLog$Reads" 24 4 4 (.array .int) true := ⟨"QuorumLog$Reads", T_R, 6, t_R, rfl, by decide, uw_R, qm_41, k_R, n_R, by decide +kernel, rfl, fun _ => rfl⟩
theorem oi_N_1 : Cond.methodLink "QuorumLog$Snapshot" 1 Lib.objectInit ∈ qu_W := qm_64
theorem fp_N_7 : qx_FP "QuorumLog$Snapshot" 7 7 0 (.int) true := ⟨"QuorumLog$Snapshot", T_N, 4, t_N, rfl, by decide, uw_N, qm_65, k_N, n_N, by decide +kernel, rfl, fun _ => rfl⟩
theorem fp_N_13 : qx_FP "QuorumLog$Snapshot" 13 7 1 (.int) true := ⟨"QuorumLog$Snapshot", T_N, 4, t_N, rfl, by decide, uw_N, qm_68, k_N, n_N, by decide +kernel, rfl, fun _ => rfl⟩
theorem fp_N_16 : qx_FP "QuorumLog$Snapshot" 16 7 2 (.int) true := ⟨"QuorumLog$Snapshot", T_N, 4, t_N, rfl, by decide, uw_N, qm_70, k_N, n_N, by decide +kernel, rfl, fun _ => rfl⟩
theorem fp_N_19 : qx_FP "QuorumLog$Snapshot" 19 7 3 (.array .int) true := ⟨"QuorumLog$Snapshot", T_N, 4, t_N, rfl, by decide, uw_N, qm_72, k_N, n_N, by decide +kernel, rfl, fun _ => rfl⟩
theorem oi_S_3 : Cond.methodLink "QuorumLog$Server" 3 Lib.objectInit ∈ qu_W := qm_87
theorem fp_S_9 : qx_FP "QuorumLog$Server" 9 6 2 (.array .int) true := ⟨"QuorumLog$Server", T_S, 13, t_S, rfl, by decide, uw_S, qm_113, k_S, n_S, by decide +kernel, rfl, fun _ => rfl⟩
theorem fp_S_15 : qx_FP "QuorumLog$Server" 15 6 3 (.array .int) true := ⟨"QuorumLog$Server", T_S, 13, t_S, rfl, by decide, uw_S, qm_115, k_S, n_S, by decide +kernel, rfl, fun _ => rfl⟩
theorem fp_S_18 : qx_FP "QuorumLog$Server" 18 6 4 (.array .int) true := ⟨"QuorumLog$Server", T_S, 13, t_S, rfl, by decide, uw_S, qm_117, k_S, n_S, by decide +kernel, rfl, fun _ => rfl⟩
theorem fp_S_21 : qx_FP "QuorumLog$Server" 21 6 5 (.boolean) false := ⟨"QuorumLog$Server", T_S, 13, t_S, rfl, by decide, uw_S, qm_119, k_S, n_S, by decide +kernel, rfl, fun _ => by contradiction⟩
theorem fp_S_25 : qx_FP "QuorumLog$Server" 25 6 8 (.int) false := ⟨"QuorumLog$Server", T_S, 13, t_S, rfl, by decide, uw_S, qm_124, k_S, n_S, by decide +kernel, rfl, fun _ => by contradiction⟩
theorem fp_S_29 : qx_FP "QuorumLog$Server" 29 6 9 (.int) false := ⟨"QuorumLog$Server", T_S, 13, t_S, rfl, by decide, uw_S, qm_126, k_S, n_S, by decide +kernel, rfl, fun _ => by contradiction⟩
theorem fp_S_32 : qx_FP "QuorumLog$Server" 32 6 0 (.int) true := ⟨"QuorumLog$Server", T_S, 13, t_S, rfl, by decide, uw_S, qm_109, k_S, n_S, by decide +kernel, rfl, fun _ => rfl⟩
theorem nw_S_35 : qx_NW "QuorumLog$Server" 35 2 [.null, .null, .int 0] 3 := ⟨"QuorumLog$Log", T_L, t_L, rfl, uw_L, k_L, fun j hj => by revert j; decide +kernel, qm_88, qm_89, qm_5⟩
theorem s_S_init_51 {l : Launch} {G : qh_G} {h : qh_H} {b0 : Nat} {rest : List Value} {v0 : Value} : qx_Site l G "QuorumLog$Server" c_S_init 51 y_L_init (.ref b0 :: [v0]) rest h := qx_siteI (As := [v0]) d_S_init_51 rfl qm_90 qm_91 w_L_init.1 (by decide) p_L_init
theorem fp_S_40 : qx_FP "QuorumLog$Server" 40 6 1 (.object "QuorumLog$Log") true := ⟨"QuorumLog$Server", T_S, 13, t_S, rfl, by decide, uw_S, qm_111, k_S, n_S, by decide +kernel, rfl, fun _ => rfl⟩
theorem oi_L_3 : Cond.methodLink "QuorumLog$Log" 3 Lib.objectInit ∈ qu_W := qm_93
theorem cl_L_9 : Cond.classLink "QuorumLog$Log" 9 "QuorumLog$Entry" ∈ qu_W := qm_94
theorem fp_L_11 : qx_FP "QuorumLog$Log" 11 2 1 (.array (.object "QuorumLog$Entry")) true := ⟨"QuorumLog$Log", T_L, 3, t_L, rfl, by decide, uw_L, qm_98, k_L, n_L, by decide +kernel, rfl, fun _ => rfl⟩
theorem fp_L_17 : qx_FP "QuorumLog$Log" 17 2 0 (.object "QuorumLog$Snapshot") false := ⟨"QuorumLog$Log", T_L, 3, t_L, rfl, by decide, uw_L, qm_96, k_L, n_L, by decide +kernel, rfl, fun _ => by contradiction⟩
theorem oi_W_3 : Cond.methodLink "QuorumLog$Row" 3 Lib.objectInit ∈ qu_W := qm_164
theorem cl_W_9 : Cond.classLink "QuorumLog$Row" 9 "QuorumLog$Message" ∈ qu_W := qm_165
theorem fp_W_11 : qx_FP "QuorumLog$Row" 11 5 0 (.array (.object "QuorumLog$Message")) true := ⟨"QuorumLog$Row", T_W, 3, t_W, rfl, by decide, uw_W, qm_226, k_W, n_W, by decide +kernel, rfl, fun _ => rfl⟩
theorem fl_W_11 : qx_FL "QuorumLog$Row" 11 5 0 := ⟨"QuorumLog$Row", T_W, 3, rfl, by decide, uw_W, qm_226⟩
theorem nw_W_9 : qx_NW "QuorumLog$Row" 9 3 [.null, .int 0, .int 0, .int 0, .int 0, .int 0, .int 0, .int 0, .int 0, .int 0, .int 0, .null] 12 := ⟨"QuorumLog$Message", T_M, t_M, rfl, uw_M, k_M, fun j hj => by revert j; decide +kernel, qm_165, qm_167, qm_7⟩
theorem s_W_init_34 {l : Launch} {G : qh_G} {h : qh_H} {b0 : Nat} {rest : List Value} {v0 : Value} : qx_Site l G "QuorumLog$Row" c_W_init 34 y_M_init (.ref b0 :: [v0]) rest h := qx_siteI (As := [v0]) d_W_init_34 rfl qm_168 qm_169 w_M_init.1 (by decide) p_M_init
theorem s_W_init_50 {l : Launch} {G : qh_G} {h : qh_H} {b0 : Nat} {rest : List Value} {v0 : Value} : qx_Site l G "QuorumLog$Row" c_W_init 50 y_M_init (.ref b0 :: [v0]) rest h := qx_siteI (As := [v0]) d_W_init_50 rfl qm_168 qm_169 w_M_init.1 (by decide) p_M_init
theorem fp_W_20 : qx_FP "QuorumLog$Row" 20 5 1 (.object "QuorumLog$Message") false := ⟨"QuorumLog$Row", T_W, 3, t_W, rfl, by decide, uw_W, qm_228, k_W, n_W, by decide +kernel, rfl, fun _ => by contradiction⟩
theorem oi_M_3 : Cond.methodLink "QuorumLog$Message" 3 Lib.objectInit ∈ qu_W := qm_171
theorem cl_M_9 : Cond.classLink "QuorumLog$Message" 9 "QuorumLog$Entry" ∈ qu_W := qm_172
theorem fp_M_11 : qx_FP "QuorumLog$Message" 11 3 0 (.array (.object "QuorumLog$Entry")) true := ⟨"QuorumLog$Message", T_M, 12, t_M, rfl, by decide, uw_M, qm_173, k_M, n_M, by decide +kernel, rfl, fun _ => rfl⟩
theorem fp_M_17 : qx_FP "QuorumLog$Message" 17 3 11 (.object "QuorumLog$Snapshot") false := ⟨"QuorumLog$Message", T_M, 12, t_M, rfl, by decide, uw_M, qm_199, k_M, n_M, by decide +kernel, rfl, fun _ => by contradiction⟩
theorem fl_S_21 : qx_FL "QuorumLog$Server" 21 6 5 := ⟨"QuorumLog$Server", T_S, 13, rfl, by decide, uw_S, qm_119⟩
theorem fl_S_29 : qx_FL "QuorumLog$Server" 29 6 9 := ⟨"QuorumLog$Server", T_S, 13, rfl, by decide, uw_S, qm_126⟩
theorem fl_S_40 : qx_FL "QuorumLog$Server" 40 6 1 := ⟨"QuorumLog$Server", T_S, 13, rfl, by decide, uw_S, qm_111⟩
theorem s_S_mayAsk_19 {l : Launch} {G : qh_G} {h : qh_H} {b0 : Nat} {fs rest : List Value} (hb0 : h b0 = some (.inr (2, fs))) : qx_Site l G "QuorumLog$Server" c_S_mayAsk 19 y_L_configuration (.ref b0 :: []) rest h := qx_siteV (As := []) (E := "QuorumLog$Log") (ci := 2) d_S_mayAsk_19 qm_259 qm_260 qm_261 w_L_configuration.1 (by decide) rfl p_L_configuration hb0
theorem fl_S_32 : qx_FL "QuorumLog$Server" 32 6 0 := ⟨"QuorumLog$Server", T_S, 13, rfl, by decide, uw_S, qm_109⟩
theorem s_S_mayAsk_26 {l : Launch} {G : qh_G} {h : qh_H} {rest : List Value} {v0 v1 : Value} : qx_Site l G "QuorumLog$Server" c_S_mayAsk 26 y_Q_isIn [v0, v1] rest h := qx_siteSN (As := [v0, v1]) d_S_mayAsk_26 (List.mem_of_getElem? (i := 1) rfl) qm_280 qm_1 w_Q_isIn.1 (by decide) p_Q_isIn
theorem fl_S_52 : qx_FL "QuorumLog$Server" 52 2 2 := ⟨"QuorumLog$Log", T_L, 3, rfl, by decide, uw_L, qm_100⟩
theorem s_L_configuration_3 {l : Launch} {G : qh_G} {h : qh_H} {b0 : Nat} {fs rest : List Value} (hb0 : h b0 = some (.inr (2, fs))) : qx_Site l G "QuorumLog$Log" c_L_configuration 3 y_L_last (.ref b0 :: []) rest h := qx_siteV (As := []) (E := "QuorumLog$Log") (ci := 2) d_L_configuration_3 qm_263 qm_264 qm_265 w_L_last.1 (by decide) rfl p_L_last hb0
theorem s_L_configuration_6 {l : Launch} {G : qh_G} {h : qh_H} {b0 : Nat} {fs rest : List Value} {v0 : Value} (hb0 : h b0 = some (.inr (2, fs))) : qx_Site l G "QuorumLog$Log" c_L_configuration 6 y_L_latestMembersUpTo (.ref b0 :: [v0]) rest h := qx_siteV (As := [v0]) (E := "QuorumLog$Log") (ci := 2) d_L_configuration_6 qm_267 qm_268 qm_269 w_L_latestMembersUpTo.1 (by decide) rfl p_L_latestMembersUpTo hb0
theorem s_L_configuration_9 {l : Launch} {G : qh_G} {h : qh_H} {b0 : Nat} {fs rest : List Value} {v0 : Value} (hb0 : h b0 = some (.inr (2, fs))) : qx_Site l G "QuorumLog$Log" c_L_configuration 9 y_L_membersAt (.ref b0 :: [v0]) rest h := qx_siteV (As := [v0]) (E := "QuorumLog$Log") (ci := 2) d_L_configuration_9 qm_275 qm_276 qm_277 w_L_membersAt.1 (by decide) rfl p_L_membersAt hb0
theorem fl_L_17 : qx_FL "QuorumLog$Log" 17 2 0 := ⟨"QuorumLog$Log", T_L, 3, rfl, by decide, uw_L, qm_96⟩
theorem fl_L_21 : qx_FL "QuorumLog$Log" 21 7 0 := ⟨"QuorumLog$Snapshot", T_N, 4, rfl, by decide, uw_N, qm_66⟩
theorem fl_L_27 : qx_FL "QuorumLog$Log" 27 2 2 := ⟨"QuorumLog$Log", T_L, 3, rfl, by decide, uw_L, qm_99⟩
theorem s_L_latestMembersUpTo_15 {l : Launch} {G : qh_G} {h : qh_H} {b0 : Nat} {fs rest : List Value} {v0 : Value} (hb0 : h b0 = some (.inr (2, fs))) : qx_Site l G "QuorumLog$Log" c_L_latestMembersUpTo 15 y_L_find (.ref b0 :: [v0]) rest h := qx_siteV (As := [v0]) (E := "QuorumLog$Log") (ci := 2) d_L_latestMembersUpTo_15 qm_271 qm_272 qm_273 w_L_find.1 (by decide) rfl p_L_find hb0
theorem fl_L_46 : qx_FL "QuorumLog$Log" 46 1 1 := ⟨"QuorumLog$Entry", T_E, 4, rfl, by decide, uw_E, qm_332⟩
theorem fl_L_11 : qx_FL "QuorumLog$Log" 11 2 1 := ⟨"QuorumLog$Log", T_L, 3, rfl, by decide, uw_L, qm_98⟩
theorem s_L_membersAt_2 {l : Launch} {G : qh_G} {h : qh_H} {b0 : Nat} {fs rest : List Value} {v0 : Value} (hb0 : h b0 = some (.inr (2, fs))) : qx_Site l G "QuorumLog$Log" c_L_membersAt 2 y_L_find (.ref b0 :: [v0]) rest h := qx_siteV (As := [v0]) (E := "QuorumLog$Log") (ci := 2) d_L_membersAt_2 qm_271 qm_272 qm_273 w_L_find.1 (by decide) rfl p_L_find hb0
theorem fl_L_55 : qx_FL "QuorumLog$Log" 55 7 2 := ⟨"QuorumLog$Snapshot", T_N, 4, rfl, by decide, uw_N, qm_71⟩
theorem fl_L_58 : qx_FL "QuorumLog$Log" 58 1 2 := ⟨"QuorumLog$Entry", T_E, 4, rfl, by decide, uw_E, qm_335⟩
theorem fl_W_24 : qx_FL "QuorumLog$Row" 24 5 2 := ⟨"QuorumLog$Row", T_W, 3, rfl, by decide, uw_W, qm_229⟩
theorem s_W_send_18 {l : Launch} {G : qh_G} {h : qh_H} {b0 : Nat} {fs rest : List Value} {v0 v1 v2 v3 : Value} (hb0 : h b0 = some (.inr (3, fs))) : qx_Site l G "QuorumLog$Row" c_W_send 18 y_M_begin (.ref b0 :: [v0, v1, v2, v3]) rest h := qx_siteV (As := [v0, v1, v2, v3]) (E := "QuorumLog$Message") (ci := 3) d_W_send_18 qm_292 qm_293 qm_294 w_M_begin.1 (by decide) rfl p_M_begin hb0
theorem fp_W_24 : qx_FP "QuorumLog$Row" 24 5 2 (.int) false := ⟨"QuorumLog$Row", T_W, 3, t_W, rfl, by decide, uw_W, qm_229, k_W, n_W, by decide +kernel, rfl, fun _ => by contradiction⟩
theorem fp_M_21 : qx_FP "QuorumLog$Message" 21 3 1 (.int) false := ⟨"QuorumLog$Message", T_M, 12, t_M, rfl, by decide, uw_M, qm_176, k_M, n_M, by decide +kernel, rfl, fun _ => by contradiction⟩
theorem fp_M_25 : qx_FP "QuorumLog$Message" 25 3 2 (.int) false := ⟨"QuorumLog$Message", T_M, 12, t_M, rfl, by decide, uw_M, qm_178, k_M, n_M, by decide +kernel, rfl, fun _ => by contradiction⟩
theorem fp_M_28 : qx_FP "QuorumLog$Message" 28 3 3 (.int) false := ⟨"QuorumLog$Message", T_M, 12, t_M, rfl, by decide, uw_M, qm_180, k_M, n_M, by decide +kernel, rfl, fun _ => by contradiction⟩
theorem fp_M_31 : qx_FP "QuorumLog$Message" 31 3 4 (.int) false := ⟨"QuorumLog$Message", T_M, 12, t_M, rfl, by decide, uw_M, qm_182, k_M, n_M, by decide +kernel, rfl, fun _ => by contradiction⟩
theorem fp_M_34 : qx_FP "QuorumLog$Message" 34 3 5 (.int) false := ⟨"QuorumLog$Message", T_M, 12, t_M, rfl, by decide, uw_M, qm_184, k_M, n_M, by decide +kernel, rfl, fun _ => by contradiction⟩
theorem fp_M_37 : qx_FP "QuorumLog$Message" 37 3 6 (.int) false := ⟨"QuorumLog$Message", T_M, 12, t_M, rfl, by decide, uw_M, qm_187, k_M, n_M, by decide +kernel, rfl, fun _ => by contradiction⟩
theorem fp_M_40 : qx_FP "QuorumLog$Message" 40 3 7 (.int) false := ⟨"QuorumLog$Message", T_M, 12, t_M, rfl, by decide, uw_M, qm_190, k_M, n_M, by decide +kernel, rfl, fun _ => by contradiction⟩
theorem fp_M_43 : qx_FP "QuorumLog$Message" 43 3 8 (.int) false := ⟨"QuorumLog$Message", T_M, 12, t_M, rfl, by decide, uw_M, qm_193, k_M, n_M, by decide +kernel, rfl, fun _ => by contradiction⟩
theorem fp_M_46 : qx_FP "QuorumLog$Message" 46 3 9 (.int) false := ⟨"QuorumLog$Message", T_M, 12, t_M, rfl, by decide, uw_M, qm_195, k_M, n_M, by decide +kernel, rfl, fun _ => by contradiction⟩
theorem fp_M_49 : qx_FP "QuorumLog$Message" 49 3 10 (.boolean) false := ⟨"QuorumLog$Message", T_M, 12, t_M, rfl, by decide, uw_M, qm_197, k_M, n_M, by decide +kernel, rfl, fun _ => by contradiction⟩
theorem s_L_lastTerm_2 {l : Launch} {G : qh_G} {h : qh_H} {b0 : Nat} {fs rest : List Value} (hb0 : h b0 = some (.inr (2, fs))) : qx_Site l G "QuorumLog$Log" c_L_lastTerm 2 y_L_last (.ref b0 :: []) rest h := qx_siteV (As := []) (E := "QuorumLog$Log") (ci := 2) d_L_lastTerm_2 qm_263 qm_264 qm_265 w_L_last.1 (by decide) rfl p_L_last hb0
theorem s_L_lastTerm_5 {l : Launch} {G : qh_G} {h : qh_H} {b0 : Nat} {fs rest : List Value} {v0 : Value} (hb0 : h b0 = some (.inr (2, fs))) : qx_Site l G "QuorumLog$Log" c_L_lastTerm 5 y_L_termAt (.ref b0 :: [v0]) rest h := qx_siteV (As := [v0]) (E := "QuorumLog$Log") (ci := 2) d_L_lastTerm_5 qm_301 qm_302 qm_303 w_L_termAt.1 (by decide) rfl p_L_termAt hb0
theorem fl_L_38 : qx_FL "QuorumLog$Log" 38 7 1 := ⟨"QuorumLog$Snapshot", T_N, 4, rfl, by decide, uw_N, qm_69⟩
theorem s_L_termAt_21 {l : Launch} {G : qh_G} {h : qh_H} {b0 : Nat} {fs rest : List Value} {v0 : Value} (hb0 : h b0 = some (.inr (2, fs))) : qx_Site l G "QuorumLog$Log" c_L_termAt 21 y_L_find (.ref b0 :: [v0]) rest h := qx_siteV (As := [v0]) (E := "QuorumLog$Log") (ci := 2) d_L_termAt_21 qm_271 qm_272 qm_273 w_L_find.1 (by decide) rfl p_L_find hb0
theorem fl_L_45 : qx_FL "QuorumLog$Log" 45 1 0 := ⟨"QuorumLog$Entry", T_E, 4, rfl, by decide, uw_E, qm_329⟩
theorem oi_E_1 : Cond.methodLink "QuorumLog$Entry" 1 Lib.objectInit ∈ qu_W := qm_327
theorem fp_E_7 : qx_FP "QuorumLog$Entry" 7 1 0 (.int) true := ⟨"QuorumLog$Entry", T_E, 4, t_E, rfl, by decide, uw_E, qm_328, k_E, n_E, by decide +kernel, rfl, fun _ => rfl⟩
theorem fp_E_13 : qx_FP "QuorumLog$Entry" 13 1 1 (.int) true := ⟨"QuorumLog$Entry", T_E, 4, t_E, rfl, by decide, uw_E, qm_331, k_E, n_E, by decide +kernel, rfl, fun _ => rfl⟩
theorem fp_E_16 : qx_FP "QuorumLog$Entry" 16 1 2 (.int) true := ⟨"QuorumLog$Entry", T_E, 4, t_E, rfl, by decide, uw_E, qm_334, k_E, n_E, by decide +kernel, rfl, fun _ => rfl⟩
theorem fp_E_19 : qx_FP "QuorumLog$Entry" 19 1 3 (.int) true := ⟨"QuorumLog$Entry", T_E, 4, t_E, rfl, by decide, uw_E, qm_337, k_E, n_E, by decide +kernel, rfl, fun _ => rfl⟩
theorem fp_L_27 : qx_FP "QuorumLog$Log" 27 2 2 (.int) false := ⟨"QuorumLog$Log", T_L, 3, t_L, rfl, by decide, uw_L, qm_99, k_L, n_L, by decide +kernel, rfl, fun _ => by contradiction⟩
theorem fl_S_15 : qx_FL "QuorumLog$Server" 15 6 3 := ⟨"QuorumLog$Server", T_S, 13, rfl, by decide, uw_S, qm_115⟩
theorem s_S_holdersOf_6 {l : Launch} {G : qh_G} {h : qh_H} {b0 : Nat} {fs rest : List Value} {v0 v1 : Value} (hb0 : h b0 = some (.inr (6, fs))) : qx_Site l G "QuorumLog$Server" c_S_holdersOf 6 y_S_reachedBy (.ref b0 :: [v0, v1]) rest h := qx_siteV (As := [v0, v1]) (E := "QuorumLog$Server") (ci := 6) d_S_holdersOf_6 qm_366 qm_368 qs_5 w_S_reachedBy.1 (by decide) rfl p_S_reachedBy hb0
theorem fl_R_27 : qx_FL "QuorumLog$Reads" 27 4 5 := ⟨"QuorumLog$Reads", T_R, 6, rfl, by decide, uw_R, qm_43⟩
theorem s_R_failAllOf_13 {l : Launch} {G : qh_G} {h : qh_H} {b0 : Nat} {fs rest : List Value} {v0 v1 : Value} (hb0 : h b0 = some (.inr (4, fs))) : qx_Site l G "QuorumLog$Reads" c_R_failAllOf 13 y_R_isKeptBy (.ref b0 :: [v0, v1]) rest h := qx_siteV (As := [v0, v1]) (E := "QuorumLog$Reads") (ci := 4) d_R_failAllOf_13 qm_379 qm_380 qm_381 w_R_isKeptBy.1 (by decide) rfl p_R_isKeptBy hb0
theorem fl_R_21 : qx_FL "QuorumLog$Reads" 21 4 3 := ⟨"QuorumLog$Reads", T_R, 6, rfl, by decide, uw_R, qm_39⟩
theorem fl_R_9 : qx_FL "QuorumLog$Reads" 9 4 0 := ⟨"QuorumLog$Reads", T_R, 6, rfl, by decide, uw_R, qm_34⟩
theorem s_L_copyBehind_14 {l : Launch} {G : qh_G} {h : qh_H} {b0 : Nat} {fs rest : List Value} {v0 : Value} (hb0 : h b0 = some (.inr (2, fs))) : qx_Site l G "QuorumLog$Log" c_L_copyBehind 14 y_L_find (.ref b0 :: [v0]) rest h := qx_siteV (As := [v0]) (E := "QuorumLog$Log") (ci := 2) d_L_copyBehind_14 qm_271 qm_272 qm_273 w_L_find.1 (by decide) rfl p_L_find hb0
theorem s_L_snapshotAt_16 {l : Launch} {G : qh_G} {h : qh_H} {b0 : Nat} {fs rest : List Value} {v0 v1 : Value} (hb0 : h b0 = some (.inr (2, fs))) : qx_Site l G "QuorumLog$Log" c_L_snapshotAt 16 y_L_storedUpTo (.ref b0 :: [v0, v1]) rest h := qx_siteV (As := [v0, v1]) (E := "QuorumLog$Log") (ci := 2) d_L_snapshotAt_16 qm_423 qm_424 qm_425 w_L_storedUpTo.1 (by decide) rfl p_L_storedUpTo hb0
theorem nw_L_22 : qx_NW "QuorumLog$Log" 22 7 [.int 0, .int 0, .int 0, .null] 4 := ⟨"QuorumLog$Snapshot", T_N, t_N, rfl, uw_N, k_N, fun j hj => by revert j; decide +kernel, qm_427, qm_60, qm_3⟩
theorem s_L_snapshotAt_33 {l : Launch} {G : qh_G} {h : qh_H} {b0 : Nat} {fs rest : List Value} {v0 : Value} (hb0 : h b0 = some (.inr (2, fs))) : qx_Site l G "QuorumLog$Log" c_L_snapshotAt 33 y_L_termAt (.ref b0 :: [v0]) rest h := qx_siteV (As := [v0]) (E := "QuorumLog$Log") (ci := 2) d_L_snapshotAt_33 qm_301 qm_302 qm_303 w_L_termAt.1 (by decide) rfl p_L_termAt hb0
theorem s_L_snapshotAt_39 {l : Launch} {G : qh_G} {h : qh_H} {b0 : Nat} {fs rest : List Value} {v0 : Value} (hb0 : h b0 = some (.inr (2, fs))) : qx_Site l G "QuorumLog$Log" c_L_snapshotAt 39 y_L_latestMembersUpTo (.ref b0 :: [v0]) rest h := qx_siteV (As := [v0]) (E := "QuorumLog$Log") (ci := 2) d_L_snapshotAt_39 qm_267 qm_268 qm_269 w_L_latestMembersUpTo.1 (by decide) rfl p_L_latestMembersUpTo hb0
theorem s_L_snapshotAt_42 {l : Launch} {G : qh_G} {h : qh_H} {b0 : Nat} {fs rest : List Value} {v0 : Value} (hb0 : h b0 = some (.inr (2, fs))) : qx_Site l G "QuorumLog$Log" c_L_snapshotAt 42 y_L_membersAt (.ref b0 :: [v0]) rest h := qx_siteV (As := [v0]) (E := "QuorumLog$Log") (ci := 2) d_L_snapshotAt_42 qm_275 qm_276 qm_277 w_L_membersAt.1 (by decide) rfl p_L_membersAt hb0
theorem s_L_snapshotAt_46 {l : Launch} {G : qh_G} {h : qh_H} {b0 : Nat} {rest : List Value} {v0 v1 v2 v3 : Value} : qx_Site l G "QuorumLog$Log" c_L_snapshotAt 46 y_N_init (.ref b0 :: [v0, v1, v2, v3]) rest h := qx_siteI (As := [v0, v1, v2, v3]) d_L_snapshotAt_46 rfl qm_428 qm_62 w_N_init.1 (by decide) p_N_init
theorem s_L_storedUpTo_15 {l : Launch} {G : qh_G} {h : qh_H} {b0 : Nat} {fs rest : List Value} {v0 : Value} (hb0 : h b0 = some (.inr (2, fs))) : qx_Site l G "QuorumLog$Log" c_L_storedUpTo 15 y_L_find (.ref b0 :: [v0]) rest h := qx_siteV (As := [v0]) (E := "QuorumLog$Log") (ci := 2) d_L_storedUpTo_15 qm_271 qm_272 qm_273 w_L_find.1 (by decide) rfl p_L_find hb0
theorem fl_L_61 : qx_FL "QuorumLog$Log" 61 1 3 := ⟨"QuorumLog$Entry", T_E, 4, rfl, by decide, uw_E, qm_338⟩
theorem fl_L_64 : qx_FL "QuorumLog$Log" 64 7 3 := ⟨"QuorumLog$Snapshot", T_N, 4, rfl, by decide, uw_N, qm_73⟩
theorem s_L_beginBehind_5 {l : Launch} {G : qh_G} {h : qh_H} {b0 : Nat} {fs rest : List Value} {v0 : Value} (hb0 : h b0 = some (.inr (2, fs))) : qx_Site l G "QuorumLog$Log" c_L_beginBehind 5 y_L_termAt (.ref b0 :: [v0]) rest h := qx_siteV (As := [v0]) (E := "QuorumLog$Log") (ci := 2) d_L_beginBehind_5 qm_301 qm_302 qm_303 w_L_termAt.1 (by decide) rfl p_L_termAt hb0
theorem s_L_beginBehind_23 {l : Launch} {G : qh_G} {h : qh_H} {b0 : Nat} {fs rest : List Value} (hb0 : h b0 = some (.inr (2, fs))) : qx_Site l G "QuorumLog$Log" c_L_beginBehind 23 y_L_last (.ref b0 :: []) rest h := qx_siteV (As := []) (E := "QuorumLog$Log") (ci := 2) d_L_beginBehind_23 qm_263 qm_264 qm_265 w_L_last.1 (by decide) rfl p_L_last hb0
theorem fl_W_20 : qx_FL "QuorumLog$Row" 20 5 1 := ⟨"QuorumLog$Row", T_W, 3, rfl, by decide, uw_W, qm_228⟩
theorem s_L_isBehindOf_1 {l : Launch} {G : qh_G} {h : qh_H} {b0 : Nat} {fs rest : List Value} (hb0 : h b0 = some (.inr (2, fs))) : qx_Site l G "QuorumLog$Log" c_L_isBehindOf 1 y_L_lastTerm (.ref b0 :: []) rest h := qx_siteV (As := []) (E := "QuorumLog$Log") (ci := 2) d_L_isBehindOf_1 qm_469 qm_298 qm_299 w_L_lastTerm.1 (by decide) rfl p_L_lastTerm hb0
theorem fl_L_71 : qx_FL "QuorumLog$Log" 71 3 6 := ⟨"QuorumLog$Message", T_M, 12, rfl, by decide, uw_M, qm_188⟩
theorem fl_L_76 : qx_FL "QuorumLog$Log" 76 3 5 := ⟨"QuorumLog$Message", T_M, 12, rfl, by decide, uw_M, qm_185⟩
theorem s_L_isBehindOf_26 {l : Launch} {G : qh_G} {h : qh_H} {b0 : Nat} {fs rest : List Value} (hb0 : h b0 = some (.inr (2, fs))) : qx_Site l G "QuorumLog$Log" c_L_isBehindOf 26 y_L_last (.ref b0 :: []) rest h := qx_siteV (As := []) (E := "QuorumLog$Log") (ci := 2) d_L_isBehindOf_26 qm_263 qm_264 qm_265 w_L_last.1 (by decide) rfl p_L_last hb0
theorem s_L_fitsBehind_2 {l : Launch} {G : qh_G} {h : qh_H} {b0 : Nat} {fs rest : List Value} (hb0 : h b0 = some (.inr (2, fs))) : qx_Site l G "QuorumLog$Log" c_L_fitsBehind 2 y_L_last (.ref b0 :: []) rest h := qx_siteV (As := []) (E := "QuorumLog$Log") (ci := 2) d_L_fitsBehind_2 qm_263 qm_264 qm_265 w_L_last.1 (by decide) rfl p_L_last hb0
theorem s_L_fitsBehind_21 {l : Launch} {G : qh_G} {h : qh_H} {b0 : Nat} {fs rest : List Value} {v0 : Value} (hb0 : h b0 = some (.inr (2, fs))) : qx_Site l G "QuorumLog$Log" c_L_fitsBehind 21 y_L_termAt (.ref b0 :: [v0]) rest h := qx_siteV (As := [v0]) (E := "QuorumLog$Log") (ci := 2) d_L_fitsBehind_21 qm_301 qm_302 qm_303 w_L_termAt.1 (by decide) rfl p_L_termAt hb0
theorem fl_L_77 : qx_FL "QuorumLog$Log" 77 3 7 := ⟨"QuorumLog$Message", T_M, 12, rfl, by decide, uw_M, qm_191⟩
theorem fl_L_80 : qx_FL "QuorumLog$Log" 80 3 0 := ⟨"QuorumLog$Message", T_M, 12, rfl, by decide, uw_M, qm_174⟩
theorem s_L_takeOver_38 {l : Launch} {G : qh_G} {h : qh_H} {b0 : Nat} {fs rest : List Value} {v0 v1 : Value} (hb0 : h b0 = some (.inr (2, fs))) : qx_Site l G "QuorumLog$Log" c_L_takeOver 38 y_L_hasOrTakes (.ref b0 :: [v0, v1]) rest h := qx_siteV (As := [v0, v1]) (E := "QuorumLog$Log") (ci := 2) d_L_takeOver_38 qm_504 qm_506 qs_17 w_L_hasOrTakes.1 (by decide) rfl p_L_hasOrTakes hb0
theorem s_L_hasOrTakes_2 {l : Launch} {G : qh_G} {h : qh_H} {b0 : Nat} {fs rest : List Value} {v0 : Value} (hb0 : h b0 = some (.inr (2, fs))) : qx_Site l G "QuorumLog$Log" c_L_hasOrTakes 2 y_L_termAt (.ref b0 :: [v0]) rest h := qx_siteV (As := [v0]) (E := "QuorumLog$Log") (ci := 2) d_L_hasOrTakes_2 qm_301 qm_302 qm_303 w_L_termAt.1 (by decide) rfl p_L_termAt hb0
theorem s_L_hasOrTakes_16 {l : Launch} {G : qh_G} {h : qh_H} {b0 : Nat} {fs rest : List Value} {v0 : Value} (hb0 : h b0 = some (.inr (2, fs))) : qx_Site l G "QuorumLog$Log" c_L_hasOrTakes 16 y_L_cutFrom (.ref b0 :: [v0]) rest h := qx_siteV (As := [v0]) (E := "QuorumLog$Log") (ci := 2) d_L_hasOrTakes_16 qm_508 qm_509 qm_510 w_L_cutFrom.1 (by decide) rfl p_L_cutFrom hb0
theorem s_L_hasOrTakes_21 {l : Launch} {G : qh_G} {h : qh_H} {b0 : Nat} {fs rest : List Value} {v0 : Value} (hb0 : h b0 = some (.inr (2, fs))) : qx_Site l G "QuorumLog$Log" c_L_hasOrTakes 21 y_L_add (.ref b0 :: [v0]) rest h := qx_siteV (As := [v0]) (E := "QuorumLog$Log") (ci := 2) d_L_hasOrTakes_21 qm_512 qm_354 qm_355 w_L_add.1 (by decide) rfl p_L_add hb0
theorem fl_S_18 : qx_FL "QuorumLog$Server" 18 6 4 := ⟨"QuorumLog$Server", T_S, 13, rfl, by decide, uw_S, qm_117⟩
theorem s_S_confirmersOf_6 {l : Launch} {G : qh_G} {h : qh_H} {b0 : Nat} {fs rest : List Value} {v0 v1 : Value} (hb0 : h b0 = some (.inr (6, fs))) : qx_Site l G "QuorumLog$Server" c_S_confirmersOf 6 y_S_reachedBy (.ref b0 :: [v0, v1]) rest h := qx_siteV (As := [v0, v1]) (E := "QuorumLog$Server") (ci := 6) d_S_confirmersOf_6 qm_366 qm_368 qs_5 w_S_reachedBy.1 (by decide) rfl p_S_reachedBy hb0
theorem fl_S_55 : qx_FL "QuorumLog$Server" 55 6 10 := ⟨"QuorumLog$Server", T_S, 13, rfl, by decide, uw_S, qm_128⟩
theorem s_S_storedNow_9 {l : Launch} {G : qh_G} {h : qh_H} {b0 : Nat} {fs rest : List Value} {v0 v1 : Value} (hb0 : h b0 = some (.inr (2, fs))) : qx_Site l G "QuorumLog$Server" c_S_storedNow 9 y_L_storedUpTo (.ref b0 :: [v0, v1]) rest h := qx_siteV (As := [v0, v1]) (E := "QuorumLog$Log") (ci := 2) d_S_storedNow_9 qm_530 qm_424 qm_425 w_L_storedUpTo.1 (by decide) rfl p_L_storedUpTo hb0
theorem s_S_hasCommitOfItsTerm_8 {l : Launch} {G : qh_G} {h : qh_H} {b0 : Nat} {fs rest : List Value} {v0 : Value} (hb0 : h b0 = some (.inr (2, fs))) : qx_Site l G "QuorumLog$Server" c_S_hasCommitOfItsTerm 8 y_L_termAt (.ref b0 :: [v0]) rest h := qx_siteV (As := [v0]) (E := "QuorumLog$Log") (ci := 2) d_S_hasCommitOfItsTerm_8 qm_693 qm_302 qm_303 w_L_termAt.1 (by decide) rfl p_L_termAt hb0
theorem fl_S_62 : qx_FL "QuorumLog$Server" 62 6 7 := ⟨"QuorumLog$Server", T_S, 13, rfl, by decide, uw_S, qm_123⟩
theorem s_R_keptBy_15 {l : Launch} {G : qh_G} {h : qh_H} {b0 : Nat} {fs rest : List Value} {v0 v1 : Value} (hb0 : h b0 = some (.inr (4, fs))) : qx_Site l G "QuorumLog$Reads" c_R_keptBy 15 y_R_isKeptBy (.ref b0 :: [v0, v1]) rest h := qx_siteV (As := [v0, v1]) (E := "QuorumLog$Reads") (ci := 4) d_R_keptBy_15 qm_379 qm_380 qm_381 w_R_isKeptBy.1 (by decide) rfl p_R_isKeptBy hb0
theorem fl_R_15 : qx_FL "QuorumLog$Reads" 15 4 1 := ⟨"QuorumLog$Reads", T_R, 6, rfl, by decide, uw_R, qm_35⟩
theorem fl_R_18 : qx_FL "QuorumLog$Reads" 18 4 2 := ⟨"QuorumLog$Reads", T_R, 6, rfl, by decide, uw_R, qm_37⟩
theorem fp_R_27 : qx_FP "QuorumLog$Reads" 27 4 5 (.int) false := ⟨"QuorumLog$Reads", T_R, 6, t_R, rfl, by decide, uw_R, qm_43, k_R, n_R, by decide +kernel, rfl, fun _ => by contradiction⟩
