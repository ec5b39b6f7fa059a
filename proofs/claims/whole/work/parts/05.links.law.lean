theorem d_Z_cell_0 : decode c_Z_cell 0 = .ok (.iload_n 1, 1) := by decide +kernel
theorem d_Z_cell_1 : decode c_Z_cell 1 = .ok (.aload_n 0, 1) := by decide +kernel
theorem d_Z_cell_2 : decode c_Z_cell 2 = .ok (.arraylength, 1) := by decide +kernel
theorem d_Z_cell_3 : decode c_Z_cell 3 = .ok (.if_icmp .ge (9), 3) := by decide +kernel
theorem d_Z_cell_6 : decode c_Z_cell 6 = .ok (.aload_n 0, 1) := by decide +kernel
theorem d_Z_cell_7 : decode c_Z_cell 7 = .ok (.iload_n 1, 1) := by decide +kernel
theorem d_Z_cell_8 : decode c_Z_cell 8 = .ok (.iaload, 1) := by decide +kernel
theorem d_Z_cell_9 : decode c_Z_cell 9 = .ok (.goto (4), 3) := by decide +kernel
theorem d_Z_cell_12 : decode c_Z_cell 12 = .ok (.iconst 0, 1) := by decide +kernel
theorem d_Z_cell_13 : decode c_Z_cell 13 = .ok (.ireturn, 1) := by decide +kernel
theorem d_Z_put_0 : decode c_Z_put 0 = .ok (.aload 4, 2) := by decide +kernel
theorem d_Z_put_2 : decode c_Z_put 2 = .ok (.iconst 0, 1) := by decide +kernel
theorem d_Z_put_3 : decode c_Z_put 3 = .ok (.aload_n 0, 1) := by decide +kernel
theorem d_Z_put_4 : decode c_Z_put 4 = .ok (.iload_n 1, 1) := by decide +kernel
theorem d_Z_put_5 : decode c_Z_put 5 = .ok (.iload_n 2, 1) := by decide +kernel
theorem d_Z_put_6 : decode c_Z_put 6 = .ok (.iload_n 3, 1) := by decide +kernel
theorem d_Z_put_7 : decode c_Z_put 7 = .ok (.invokevirtual 7, 3) := by decide +kernel
theorem d_Z_put_10 : decode c_Z_put 10 = .ok (.i2l, 1) := by decide +kernel
theorem d_Z_put_11 : decode c_Z_put 11 = .ok (.lastore, 1) := by decide +kernel
theorem d_Z_put_12 : decode c_Z_put 12 = .ok (.goto (15), 3) := by decide +kernel
theorem d_Z_put_15 : decode c_Z_put 15 = .ok (.astore 5, 2) := by decide +kernel
theorem d_Z_put_17 : decode c_Z_put 17 = .ok (.iconst 1, 1) := by decide +kernel
theorem d_Z_put_18 : decode c_Z_put 18 = .ok (.ireturn, 1) := by decide +kernel
theorem d_Z_put_19 : decode c_Z_put 19 = .ok (.astore 5, 2) := by decide +kernel
theorem d_Z_put_21 : decode c_Z_put 21 = .ok (.iconst 2, 1) := by decide +kernel
theorem d_Z_put_22 : decode c_Z_put 22 = .ok (.ireturn, 1) := by decide +kernel
theorem d_Z_put_23 : decode c_Z_put 23 = .ok (.astore 5, 2) := by decide +kernel
theorem d_Z_put_25 : decode c_Z_put 25 = .ok (.iconst 3, 1) := by decide +kernel
theorem d_Z_put_26 : decode c_Z_put 26 = .ok (.ireturn, 1) := by decide +kernel
theorem d_Z_put_27 : decode c_Z_put 27 = .ok (.iconst 0, 1) := by decide +kernel
theorem d_Z_put_28 : decode c_Z_put 28 = .ok (.ireturn, 1) := by decide +kernel
theorem d_Z_change_0 : decode c_Z_change 0 = .ok (.aload 4, 2) := by decide +kernel
theorem d_Z_change_2 : decode c_Z_change 2 = .ok (.iconst 0, 1) := by decide +kernel
theorem d_Z_change_3 : decode c_Z_change 3 = .ok (.aload_n 0, 1) := by decide +kernel
theorem d_Z_change_4 : decode c_Z_change 4 = .ok (.iload_n 1, 1) := by decide +kernel
theorem d_Z_change_5 : decode c_Z_change 5 = .ok (.iload_n 2, 1) := by decide +kernel
theorem d_Z_change_6 : decode c_Z_change 6 = .ok (.iload_n 3, 1) := by decide +kernel
theorem d_Z_change_7 : decode c_Z_change 7 = .ok (.invokevirtual 19, 3) := by decide +kernel
theorem d_Z_change_10 : decode c_Z_change 10 = .ok (.i2l, 1) := by decide +kernel
theorem d_Z_change_11 : decode c_Z_change 11 = .ok (.lastore, 1) := by decide +kernel
theorem d_Z_change_12 : decode c_Z_change 12 = .ok (.goto (15), 3) := by decide +kernel
theorem d_Z_change_15 : decode c_Z_change 15 = .ok (.astore 5, 2) := by decide +kernel
theorem d_Z_change_17 : decode c_Z_change 17 = .ok (.iconst 1, 1) := by decide +kernel
theorem d_Z_change_18 : decode c_Z_change 18 = .ok (.ireturn, 1) := by decide +kernel
theorem d_Z_change_19 : decode c_Z_change 19 = .ok (.astore 5, 2) := by decide +kernel
theorem d_Z_change_21 : decode c_Z_change 21 = .ok (.iconst 2, 1) := by decide +kernel
theorem d_Z_change_22 : decode c_Z_change 22 = .ok (.ireturn, 1) := by decide +kernel
theorem d_Z_change_23 : decode c_Z_change 23 = .ok (.astore 5, 2) := by decide +kernel
theorem d_Z_change_25 : decode c_Z_change 25 = .ok (.iconst 3, 1) := by decide +kernel
theorem d_Z_change_26 : decode c_Z_change 26 = .ok (.ireturn, 1) := by decide +kernel
theorem d_Z_change_27 : decode c_Z_change 27 = .ok (.iconst 0, 1) := by decide +kernel
theorem d_Z_change_28 : decode c_Z_change 28 = .ok (.ireturn, 1) := by decide +kernel
theorem d_Z_read_0 : decode c_Z_read 0 = .ok (.aload_n 3, 1) := by decide +kernel
theorem d_Z_read_1 : decode c_Z_read 1 = .ok (.iconst 0, 1) := by decide +kernel
theorem d_Z_read_2 : decode c_Z_read 2 = .ok (.aload_n 0, 1) := by decide +kernel
theorem d_Z_read_3 : decode c_Z_read 3 = .ok (.iload_n 1, 1) := by decide +kernel
theorem d_Z_read_4 : decode c_Z_read 4 = .ok (.iload_n 2, 1) := by decide +kernel
theorem d_Z_read_5 : decode c_Z_read 5 = .ok (.invokevirtual 23, 3) := by decide +kernel
theorem d_Z_read_8 : decode c_Z_read 8 = .ok (.i2l, 1) := by decide +kernel
theorem d_Z_read_9 : decode c_Z_read 9 = .ok (.lastore, 1) := by decide +kernel
theorem d_Z_read_10 : decode c_Z_read 10 = .ok (.goto (15), 3) := by decide +kernel
theorem d_Z_read_13 : decode c_Z_read 13 = .ok (.astore 4, 2) := by decide +kernel
theorem d_Z_read_15 : decode c_Z_read 15 = .ok (.iconst 1, 1) := by decide +kernel
theorem d_Z_read_16 : decode c_Z_read 16 = .ok (.ireturn, 1) := by decide +kernel
theorem d_Z_read_17 : decode c_Z_read 17 = .ok (.astore 4, 2) := by decide +kernel
theorem d_Z_read_19 : decode c_Z_read 19 = .ok (.iconst 2, 1) := by decide +kernel
theorem d_Z_read_20 : decode c_Z_read 20 = .ok (.ireturn, 1) := by decide +kernel
theorem d_Z_read_21 : decode c_Z_read 21 = .ok (.astore 4, 2) := by decide +kernel
theorem d_Z_read_23 : decode c_Z_read 23 = .ok (.iconst 3, 1) := by decide +kernel
theorem d_Z_read_24 : decode c_Z_read 24 = .ok (.ireturn, 1) := by decide +kernel
theorem d_Z_read_25 : decode c_Z_read 25 = .ok (.iconst 0, 1) := by decide +kernel
theorem d_Z_read_26 : decode c_Z_read 26 = .ok (.ireturn, 1) := by decide +kernel
theorem s_Z_put_7 {l : Launch} {G : qh_G} {h : qh_H} {b0 : Nat} {fs rest : List Value} {v0 v1 v2 : Value} (hb0 : h b0 = some (.inr (0, fs))) : qx_Site l G "QuorumLogLaw" c_Z_put 7 y_Q_put (.ref b0 :: [v0, v1, v2]) rest h := qx_siteV (As := [v0, v1, v2]) (E := "QuorumLog") (ci := 0) d_Z_put_7 qm_572 qm_573 qm_574 w_Q_put.1 (by decide) rfl p_Q_put hb0
theorem s_Z_change_7 {l : Launch} {G : qh_G} {h : qh_H} {b0 : Nat} {fs rest : List Value} {v0 v1 v2 : Value} (hb0 : h b0 = some (.inr (0, fs))) : qx_Site l G "QuorumLogLaw" c_Z_change 7 y_Q_change (.ref b0 :: [v0, v1, v2]) rest h := qx_siteV (As := [v0, v1, v2]) (E := "QuorumLog") (ci := 0) d_Z_change_7 qm_683 qm_684 qm_685 w_Q_change.1 (by decide) rfl p_Q_change hb0
theorem s_Z_read_5 {l : Launch} {G : qh_G} {h : qh_H} {b0 : Nat} {fs rest : List Value} {v0 v1 : Value} (hb0 : h b0 = some (.inr (0, fs))) : qx_Site l G "QuorumLogLaw" c_Z_read 5 y_Q_read (.ref b0 :: [v0, v1]) rest h := qx_siteV (As := [v0, v1]) (E := "QuorumLog") (ci := 0) d_Z_read_5 qm_698 qm_699 qm_700 w_Q_read.1 (by decide) rfl p_Q_read hb0
