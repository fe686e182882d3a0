theorem dX6_whyNotPlace_11 : decode cX6_whyNotPlace 11 = .ok (.iload_n 3, 1) := by decide +kernel
theorem dX6_whyNotPlace_12 : decode cX6_whyNotPlace 12 = .ok (.iload 4, 2) := by decide +kernel
theorem dX6_whyNotPlace_14 : decode cX6_whyNotPlace 14 = .ok (.bipush 6, 2) := by decide +kernel
theorem dX6_whyNotPlace_16 : decode cX6_whyNotPlace 16 = .ok (.invokestatic 99, 3) := by decide +kernel
theorem dX6_whyNotPlace_19 : decode cX6_whyNotPlace 19 = .ok (.aload_n 0, 1) := by decide +kernel
theorem dX6_whyNotPlace_20 : decode cX6_whyNotPlace 20 = .ok (.getfield 10, 3) := by decide +kernel
theorem dX6_whyNotPlace_23 : decode cX6_whyNotPlace 23 = .ok (.aload 5, 2) := by decide +kernel
theorem dX6_whyNotPlace_25 : decode cX6_whyNotPlace 25 = .ok (.iload_n 2, 1) := by decide +kernel
theorem dX6_whyNotPlace_26 : decode cX6_whyNotPlace 26 = .ok (.iload_n 3, 1) := by decide +kernel
theorem dX6_whyNotPlace_27 : decode cX6_whyNotPlace 27 = .ok (.iload 4, 2) := by decide +kernel
theorem dX6_whyNotPlace_29 : decode cX6_whyNotPlace 29 = .ok (.invokevirtual 250, 3) := by decide +kernel
theorem dX6_whyNotPlace_32 : decode cX6_whyNotPlace 32 = .ok (.ireturn, 1) := by decide +kernel
theorem dX6_earliest_0 : decode cX6_earliest 0 = .ok (.aload_n 0, 1) := by decide +kernel
theorem dX6_earliest_1 : decode cX6_earliest 1 = .ok (.getfield 10, 3) := by decide +kernel
theorem dX6_earliest_4 : decode cX6_earliest 4 = .ok (.aload_n 0, 1) := by decide +kernel
theorem dX6_earliest_5 : decode cX6_earliest 5 = .ok (.iload_n 1, 1) := by decide +kernel
theorem dX6_earliest_6 : decode cX6_earliest 6 = .ok (.invokevirtual 157, 3) := by decide +kernel
theorem dX6_earliest_9 : decode cX6_earliest 9 = .ok (.invokevirtual 272, 3) := by decide +kernel
theorem dX6_earliest_12 : decode cX6_earliest 12 = .ok (.istore_n 2, 1) := by decide +kernel
theorem dX6_earliest_13 : decode cX6_earliest 13 = .ok (.iload_n 2, 1) := by decide +kernel
theorem dX6_earliest_14 : decode cX6_earliest 14 = .ok (.iconst (-1), 1) := by decide +kernel
theorem dX6_earliest_15 : decode cX6_earliest 15 = .ok (.if_icmp .ne 14, 3) := by decide +kernel
theorem dX6_earliest_18 : decode cX6_earliest 18 = .ok (.new 142, 3) := by decide +kernel
theorem dX6_earliest_21 : decode cX6_earliest 21 = .ok (.dup, 1) := by decide +kernel
theorem dX6_earliest_22 : decode cX6_earliest 22 = .ok (.ldc_w 275, 3) := by decide +kernel
theorem dX6_earliest_25 : decode cX6_earliest 25 = .ok (.invokespecial 146, 3) := by decide +kernel
theorem dX6_earliest_28 : decode cX6_earliest 28 = .ok (.athrow, 1) := by decide +kernel
theorem dX6_earliest_29 : decode cX6_earliest 29 = .ok (.iload_n 2, 1) := by decide +kernel
theorem dX6_earliest_30 : decode cX6_earliest 30 = .ok (.ireturn, 1) := by decide +kernel
theorem dX6_deadline_0 : decode cX6_deadline 0 = .ok (.aload_n 0, 1) := by decide +kernel
theorem dX6_deadline_1 : decode cX6_deadline 1 = .ok (.iload_n 1, 1) := by decide +kernel
theorem dX6_deadline_2 : decode cX6_deadline 2 = .ok (.invokevirtual 157, 3) := by decide +kernel
theorem dX6_deadline_5 : decode cX6_deadline 5 = .ok (.astore_n 3, 1) := by decide +kernel
theorem dX6_deadline_6 : decode cX6_deadline 6 = .ok (.iload_n 2, 1) := by decide +kernel
theorem dX6_deadline_7 : decode cX6_deadline 7 = .ok (.iconst 1, 1) := by decide +kernel
theorem dX6_deadline_8 : decode cX6_deadline 8 = .ok (.if_icmp .lt 8, 3) := by decide +kernel
theorem dX6_deadline_11 : decode cX6_deadline 11 = .ok (.iload_n 2, 1) := by decide +kernel
theorem dX6_deadline_12 : decode cX6_deadline 12 = .ok (.iconst 4, 1) := by decide +kernel
theorem dX6_deadline_13 : decode cX6_deadline 13 = .ok (.if_icmp .le 14, 3) := by decide +kernel
theorem dX6_deadline_16 : decode cX6_deadline 16 = .ok (.new 60, 3) := by decide +kernel
theorem dX6_deadline_19 : decode cX6_deadline 19 = .ok (.dup, 1) := by decide +kernel
theorem dX6_deadline_20 : decode cX6_deadline 20 = .ok (.ldc_w 277, 3) := by decide +kernel
theorem dX6_deadline_23 : decode cX6_deadline 23 = .ok (.invokespecial 64, 3) := by decide +kernel
theorem dX6_deadline_26 : decode cX6_deadline 26 = .ok (.athrow, 1) := by decide +kernel
theorem dX6_deadline_27 : decode cX6_deadline 27 = .ok (.aload_n 3, 1) := by decide +kernel
theorem dX6_deadline_28 : decode cX6_deadline 28 = .ok (.invokevirtual 260, 3) := by decide +kernel
theorem dX6_deadline_31 : decode cX6_deadline 31 = .ok (.ifCond .ne 14, 3) := by decide +kernel
theorem dX6_deadline_34 : decode cX6_deadline 34 = .ok (.new 67, 3) := by decide +kernel
theorem dX6_deadline_37 : decode cX6_deadline 37 = .ok (.dup, 1) := by decide +kernel
theorem dX6_deadline_38 : decode cX6_deadline 38 = .ok (.ldc_w 279, 3) := by decide +kernel
theorem dX6_deadline_41 : decode cX6_deadline 41 = .ok (.invokespecial 71, 3) := by decide +kernel
theorem dX6_deadline_44 : decode cX6_deadline 44 = .ok (.athrow, 1) := by decide +kernel
theorem dX6_deadline_45 : decode cX6_deadline 45 = .ok (.aload_n 3, 1) := by decide +kernel
theorem dX6_deadline_46 : decode cX6_deadline 46 = .ok (.iload_n 2, 1) := by decide +kernel
theorem dX6_deadline_47 : decode cX6_deadline 47 = .ok (.invokevirtual 281, 3) := by decide +kernel
theorem dX6_deadline_50 : decode cX6_deadline 50 = .ok (.ireturn, 1) := by decide +kernel
theorem dX6_goOn_0 : decode cX6_goOn 0 = .ok (.aload_n 0, 1) := by decide +kernel
theorem dX6_goOn_1 : decode cX6_goOn 1 = .ok (.iload_n 1, 1) := by decide +kernel
theorem dX6_goOn_2 : decode cX6_goOn 2 = .ok (.invokevirtual 157, 3) := by decide +kernel
theorem dX6_goOn_5 : decode cX6_goOn 5 = .ok (.astore_n 2, 1) := by decide +kernel
theorem dX6_goOn_6 : decode cX6_goOn 6 = .ok (.aload_n 0, 1) := by decide +kernel
theorem dX6_goOn_7 : decode cX6_goOn 7 = .ok (.getfield 10, 3) := by decide +kernel
theorem dX6_goOn_10 : decode cX6_goOn 10 = .ok (.aload_n 2, 1) := by decide +kernel
theorem dX6_goOn_11 : decode cX6_goOn 11 = .ok (.invokevirtual 284, 3) := by decide +kernel
theorem dX6_goOn_14 : decode cX6_goOn 14 = .ok (.ifCond .ne 14, 3) := by decide +kernel
theorem dX6_goOn_17 : decode cX6_goOn 17 = .ok (.new 67, 3) := by decide +kernel
theorem dX6_goOn_20 : decode cX6_goOn 20 = .ok (.dup, 1) := by decide +kernel
theorem dX6_goOn_21 : decode cX6_goOn 21 = .ok (.ldc_w 287, 3) := by decide +kernel
theorem dX6_goOn_24 : decode cX6_goOn 24 = .ok (.invokespecial 71, 3) := by decide +kernel
theorem dX6_goOn_27 : decode cX6_goOn 27 = .ok (.athrow, 1) := by decide +kernel
theorem dX6_goOn_28 : decode cX6_goOn 28 = .ok (.aload_n 0, 1) := by decide +kernel
theorem dX6_goOn_29 : decode cX6_goOn 29 = .ok (.getfield 22, 3) := by decide +kernel
theorem dX6_goOn_32 : decode cX6_goOn 32 = .ok (.aload_n 0, 1) := by decide +kernel
theorem dX6_goOn_33 : decode cX6_goOn 33 = .ok (.getfield 10, 3) := by decide +kernel
theorem dX6_goOn_36 : decode cX6_goOn 36 = .ok (.invokevirtual 72, 3) := by decide +kernel
theorem dX6_goOn_39 : decode cX6_goOn 39 = .ok (.aload_n 2, 1) := by decide +kernel
theorem dX6_goOn_40 : decode cX6_goOn 40 = .ok (.dup, 1) := by decide +kernel
theorem dX6_goOn_41 : decode cX6_goOn 41 = .ok (.getfield 173, 3) := by decide +kernel
theorem dX6_goOn_44 : decode cX6_goOn 44 = .ok (.iconst 1, 1) := by decide +kernel
theorem dX6_goOn_45 : decode cX6_goOn 45 = .ok (.iadd, 1) := by decide +kernel
theorem dX6_goOn_46 : decode cX6_goOn 46 = .ok (.putfield 173, 3) := by decide +kernel
theorem dX6_goOn_49 : decode cX6_goOn 49 = .ok (.aload_n 2, 1) := by decide +kernel
theorem dX6_goOn_50 : decode cX6_goOn 50 = .ok (.getfield 173, 3) := by decide +kernel
theorem dX6_goOn_53 : decode cX6_goOn 53 = .ok (.ireturn, 1) := by decide +kernel
theorem dX6_mostUrgent_0 : decode cX6_mostUrgent 0 = .ok (.aload_n 0, 1) := by decide +kernel
theorem dX6_mostUrgent_1 : decode cX6_mostUrgent 1 = .ok (.getfield 10, 3) := by decide +kernel
theorem dX6_mostUrgent_4 : decode cX6_mostUrgent 4 = .ok (.invokevirtual 289, 3) := by decide +kernel
theorem dX6_mostUrgent_7 : decode cX6_mostUrgent 7 = .ok (.istore_n 1, 1) := by decide +kernel
theorem dX6_mostUrgent_8 : decode cX6_mostUrgent 8 = .ok (.iload_n 1, 1) := by decide +kernel
theorem dX6_mostUrgent_9 : decode cX6_mostUrgent 9 = .ok (.iconst (-1), 1) := by decide +kernel
theorem dX6_mostUrgent_10 : decode cX6_mostUrgent 10 = .ok (.if_icmp .ne 14, 3) := by decide +kernel
theorem dX6_mostUrgent_13 : decode cX6_mostUrgent 13 = .ok (.new 142, 3) := by decide +kernel
theorem dX6_mostUrgent_16 : decode cX6_mostUrgent 16 = .ok (.dup, 1) := by decide +kernel
theorem dX6_mostUrgent_17 : decode cX6_mostUrgent 17 = .ok (.ldc_w 292, 3) := by decide +kernel
theorem dX6_mostUrgent_20 : decode cX6_mostUrgent 20 = .ok (.invokespecial 146, 3) := by decide +kernel
theorem dX6_mostUrgent_23 : decode cX6_mostUrgent 23 = .ok (.athrow, 1) := by decide +kernel
theorem dX6_mostUrgent_24 : decode cX6_mostUrgent 24 = .ok (.iload_n 1, 1) := by decide +kernel
theorem dX6_mostUrgent_25 : decode cX6_mostUrgent 25 = .ok (.ireturn, 1) := by decide +kernel
theorem dX6_inRoom_0 : decode cX6_inRoom 0 = .ok (.iload_n 1, 1) := by decide +kernel
theorem dX6_inRoom_1 : decode cX6_inRoom 1 = .ok (.invokestatic 247, 3) := by decide +kernel
theorem dX6_inRoom_4 : decode cX6_inRoom 4 = .ok (.iload_n 2, 1) := by decide +kernel
theorem dX6_inRoom_5 : decode cX6_inRoom 5 = .ok (.iload_n 3, 1) := by decide +kernel
theorem dX6_inRoom_6 : decode cX6_inRoom 6 = .ok (.bipush 7, 2) := by decide +kernel
theorem dX6_inRoom_8 : decode cX6_inRoom 8 = .ok (.invokestatic 99, 3) := by decide +kernel
theorem dX6_inRoom_11 : decode cX6_inRoom 11 = .ok (.aload_n 0, 1) := by decide +kernel
theorem dX6_inRoom_12 : decode cX6_inRoom 12 = .ok (.getfield 10, 3) := by decide +kernel
theorem dX6_inRoom_15 : decode cX6_inRoom 15 = .ok (.iload_n 1, 1) := by decide +kernel
theorem dX6_inRoom_16 : decode cX6_inRoom 16 = .ok (.iload_n 2, 1) := by decide +kernel
theorem dX6_inRoom_17 : decode cX6_inRoom 17 = .ok (.iload_n 3, 1) := by decide +kernel
theorem dX6_inRoom_18 : decode cX6_inRoom 18 = .ok (.invokevirtual 294, 3) := by decide +kernel
theorem dX6_inRoom_21 : decode cX6_inRoom 21 = .ok (.istore 4, 2) := by decide +kernel
theorem dX6_inRoom_23 : decode cX6_inRoom 23 = .ok (.iload 4, 2) := by decide +kernel
theorem dX6_inRoom_25 : decode cX6_inRoom 25 = .ok (.iconst (-1), 1) := by decide +kernel
theorem dX6_inRoom_26 : decode cX6_inRoom 26 = .ok (.if_icmp .ne 14, 3) := by decide +kernel
theorem dX6_inRoom_29 : decode cX6_inRoom 29 = .ok (.new 142, 3) := by decide +kernel
theorem dX6_inRoom_32 : decode cX6_inRoom 32 = .ok (.dup, 1) := by decide +kernel
theorem dX6_inRoom_33 : decode cX6_inRoom 33 = .ok (.ldc_w 298, 3) := by decide +kernel
theorem dX6_inRoom_36 : decode cX6_inRoom 36 = .ok (.invokespecial 146, 3) := by decide +kernel
theorem dX6_inRoom_39 : decode cX6_inRoom 39 = .ok (.athrow, 1) := by decide +kernel
theorem dX6_inRoom_40 : decode cX6_inRoom 40 = .ok (.iload 4, 2) := by decide +kernel
theorem dX6_inRoom_42 : decode cX6_inRoom 42 = .ok (.ireturn, 1) := by decide +kernel
theorem dX6_await_0 : decode cX6_await 0 = .ok (.aload_n 0, 1) := by decide +kernel
theorem dX6_await_1 : decode cX6_await 1 = .ok (.iload_n 1, 1) := by decide +kernel
theorem dX6_await_2 : decode cX6_await 2 = .ok (.invokevirtual 157, 3) := by decide +kernel
theorem dX6_await_5 : decode cX6_await 5 = .ok (.astore_n 2, 1) := by decide +kernel
theorem dX6_await_6 : decode cX6_await 6 = .ok (.aload_n 2, 1) := by decide +kernel
theorem dX6_await_7 : decode cX6_await 7 = .ok (.invokevirtual 264, 3) := by decide +kernel
theorem dX6_await_10 : decode cX6_await 10 = .ok (.ifCond .ne 10, 3) := by decide +kernel
theorem dX6_await_13 : decode cX6_await 13 = .ok (.aload_n 2, 1) := by decide +kernel
theorem dX6_await_14 : decode cX6_await 14 = .ok (.invokevirtual 260, 3) := by decide +kernel
theorem dX6_await_17 : decode cX6_await 17 = .ok (.ifCond .eq 14, 3) := by decide +kernel
theorem dX6_await_20 : decode cX6_await 20 = .ok (.new 67, 3) := by decide +kernel
theorem dX6_await_23 : decode cX6_await 23 = .ok (.dup, 1) := by decide +kernel
theorem dX6_await_24 : decode cX6_await 24 = .ok (.ldc_w 300, 3) := by decide +kernel
theorem dX6_await_27 : decode cX6_await 27 = .ok (.invokespecial 71, 3) := by decide +kernel
theorem dX6_await_30 : decode cX6_await 30 = .ok (.athrow, 1) := by decide +kernel
theorem dX6_await_31 : decode cX6_await 31 = .ok (.aload_n 0, 1) := by decide +kernel
theorem dX6_await_32 : decode cX6_await 32 = .ok (.getfield 22, 3) := by decide +kernel
theorem dX6_await_35 : decode cX6_await 35 = .ok (.aload_n 0, 1) := by decide +kernel
theorem dX6_await_36 : decode cX6_await 36 = .ok (.getfield 10, 3) := by decide +kernel
theorem dX6_await_39 : decode cX6_await 39 = .ok (.invokevirtual 72, 3) := by decide +kernel
theorem dX6_await_42 : decode cX6_await 42 = .ok (.aload_n 0, 1) := by decide +kernel
theorem dX6_await_43 : decode cX6_await 43 = .ok (.getfield 10, 3) := by decide +kernel
theorem dX6_await_46 : decode cX6_await 46 = .ok (.aload_n 2, 1) := by decide +kernel
theorem dX6_await_47 : decode cX6_await 47 = .ok (.invokevirtual 302, 3) := by decide +kernel
theorem dX6_await_50 : decode cX6_await 50 = .ok (.aload_n 0, 1) := by decide +kernel
theorem dX6_await_51 : decode cX6_await 51 = .ok (.getfield 10, 3) := by decide +kernel
theorem dX6_await_54 : decode cX6_await 54 = .ok (.aload_n 2, 1) := by decide +kernel
theorem dX6_await_55 : decode cX6_await 55 = .ok (.invokevirtual 188, 3) := by decide +kernel
theorem dX6_await_58 : decode cX6_await 58 = .ok (.ireturn, 1) := by decide +kernel
theorem dX6_serve_0 : decode cX6_serve 0 = .ok (.aload_n 0, 1) := by decide +kernel
theorem dX6_serve_1 : decode cX6_serve 1 = .ok (.getfield 22, 3) := by decide +kernel
theorem dX6_serve_4 : decode cX6_serve 4 = .ok (.aload_n 0, 1) := by decide +kernel
theorem dX6_serve_5 : decode cX6_serve 5 = .ok (.getfield 10, 3) := by decide +kernel
theorem dX6_serve_8 : decode cX6_serve 8 = .ok (.invokevirtual 72, 3) := by decide +kernel
theorem dX6_serve_11 : decode cX6_serve 11 = .ok (.aload_n 0, 1) := by decide +kernel
theorem dX6_serve_12 : decode cX6_serve 12 = .ok (.getfield 10, 3) := by decide +kernel
theorem dX6_serve_15 : decode cX6_serve 15 = .ok (.invokevirtual 306, 3) := by decide +kernel
theorem dX6_serve_18 : decode cX6_serve 18 = .ok (.ireturn, 1) := by decide +kernel
theorem dX6_waiting_0 : decode cX6_waiting 0 = .ok (.iload_n 1, 1) := by decide +kernel
theorem dX6_waiting_1 : decode cX6_waiting 1 = .ok (.aload_n 0, 1) := by decide +kernel
theorem dX6_waiting_2 : decode cX6_waiting 2 = .ok (.getfield 10, 3) := by decide +kernel
theorem dX6_waiting_5 : decode cX6_waiting 5 = .ok (.getfield 309, 3) := by decide +kernel
theorem dX6_waiting_8 : decode cX6_waiting 8 = .ok (.invokestatic 56, 3) := by decide +kernel
theorem dX6_waiting_11 : decode cX6_waiting 11 = .ok (.ifCond .ne 14, 3) := by decide +kernel
theorem dX6_waiting_14 : decode cX6_waiting 14 = .ok (.new 142, 3) := by decide +kernel
theorem dX6_waiting_17 : decode cX6_waiting 17 = .ok (.dup, 1) := by decide +kernel
theorem dX6_waiting_18 : decode cX6_waiting 18 = .ok (.ldc_w 312, 3) := by decide +kernel
theorem dX6_waiting_21 : decode cX6_waiting 21 = .ok (.invokespecial 146, 3) := by decide +kernel
theorem dX6_waiting_24 : decode cX6_waiting 24 = .ok (.athrow, 1) := by decide +kernel
theorem dX6_waiting_25 : decode cX6_waiting 25 = .ok (.aload_n 0, 1) := by decide +kernel
theorem dX6_waiting_26 : decode cX6_waiting 26 = .ok (.getfield 10, 3) := by decide +kernel
theorem dX6_waiting_29 : decode cX6_waiting 29 = .ok (.getfield 314, 3) := by decide +kernel
theorem dX6_waiting_32 : decode cX6_waiting 32 = .ok (.iload_n 1, 1) := by decide +kernel
theorem dX6_waiting_33 : decode cX6_waiting 33 = .ok (.iaload, 1) := by decide +kernel
theorem dX6_waiting_34 : decode cX6_waiting 34 = .ok (.ireturn, 1) := by decide +kernel
theorem dX6_pass_0 : decode cX6_pass 0 = .ok (.iload_n 1, 1) := by decide +kernel
theorem dX6_pass_1 : decode cX6_pass 1 = .ok (.iconst 1, 1) := by decide +kernel
theorem dX6_pass_2 : decode cX6_pass 2 = .ok (.if_icmp .lt 9, 3) := by decide +kernel
theorem dX6_pass_5 : decode cX6_pass 5 = .ok (.iload_n 1, 1) := by decide +kernel
theorem dX6_pass_6 : decode cX6_pass 6 = .ok (.bipush 99, 2) := by decide +kernel
theorem dX6_pass_8 : decode cX6_pass 8 = .ok (.if_icmp .le 14, 3) := by decide +kernel
theorem dX6_pass_11 : decode cX6_pass 11 = .ok (.new 60, 3) := by decide +kernel
theorem dX6_pass_14 : decode cX6_pass 14 = .ok (.dup, 1) := by decide +kernel
theorem dX6_pass_15 : decode cX6_pass 15 = .ok (.ldc_w 318, 3) := by decide +kernel
theorem dX6_pass_18 : decode cX6_pass 18 = .ok (.invokespecial 64, 3) := by decide +kernel
theorem dX6_pass_21 : decode cX6_pass 21 = .ok (.athrow, 1) := by decide +kernel
theorem dX6_pass_22 : decode cX6_pass 22 = .ok (.aload_n 0, 1) := by decide +kernel
theorem dX6_pass_23 : decode cX6_pass 23 = .ok (.getfield 10, 3) := by decide +kernel
theorem dX6_pass_26 : decode cX6_pass 26 = .ok (.iload_n 1, 1) := by decide +kernel
theorem dX6_pass_27 : decode cX6_pass 27 = .ok (.invokevirtual 320, 3) := by decide +kernel
theorem dX6_pass_30 : decode cX6_pass 30 = .ok (.ifCond .ne 14, 3) := by decide +kernel
theorem dX6_pass_33 : decode cX6_pass 33 = .ok (.new 67, 3) := by decide +kernel
theorem dX6_pass_36 : decode cX6_pass 36 = .ok (.dup, 1) := by decide +kernel
theorem dX6_pass_37 : decode cX6_pass 37 = .ok (.ldc_w 323, 3) := by decide +kernel
theorem dX6_pass_40 : decode cX6_pass 40 = .ok (.invokespecial 71, 3) := by decide +kernel
theorem dX6_pass_43 : decode cX6_pass 43 = .ok (.athrow, 1) := by decide +kernel
theorem dX6_pass_44 : decode cX6_pass 44 = .ok (.aload_n 0, 1) := by decide +kernel
theorem dX6_pass_45 : decode cX6_pass 45 = .ok (.getfield 22, 3) := by decide +kernel
theorem dX6_pass_48 : decode cX6_pass 48 = .ok (.aload_n 0, 1) := by decide +kernel
theorem dX6_pass_49 : decode cX6_pass 49 = .ok (.getfield 10, 3) := by decide +kernel
theorem dX6_pass_52 : decode cX6_pass 52 = .ok (.invokevirtual 72, 3) := by decide +kernel
theorem dX6_pass_55 : decode cX6_pass 55 = .ok (.aload_n 0, 1) := by decide +kernel
theorem dX6_pass_56 : decode cX6_pass 56 = .ok (.getfield 10, 3) := by decide +kernel
theorem dX6_pass_59 : decode cX6_pass 59 = .ok (.iload_n 1, 1) := by decide +kernel
theorem dX6_pass_60 : decode cX6_pass 60 = .ok (.invokevirtual 325, 3) := by decide +kernel
theorem dX6_pass_63 : decode cX6_pass 63 = .ok (.ireturn, 1) := by decide +kernel
theorem dX6_account_0 : decode cX6_account 0 = .ok (.iload_n 1, 1) := by decide +kernel
theorem dX6_account_1 : decode cX6_account 1 = .ok (.tableswitch 135 0 9 #[55, 63, 71, 79, 87, 95, 103, 111, 119, 127], 55) := by decide +kernel
theorem dX6_account_56 : decode cX6_account 56 = .ok (.aload_n 0, 1) := by decide +kernel
theorem dX6_account_57 : decode cX6_account 57 = .ok (.getfield 10, 3) := by decide +kernel
theorem dX6_account_60 : decode cX6_account 60 = .ok (.getfield 47, 3) := by decide +kernel
theorem dX6_account_63 : decode cX6_account 63 = .ok (.ireturn, 1) := by decide +kernel
theorem dX6_account_64 : decode cX6_account 64 = .ok (.aload_n 0, 1) := by decide +kernel
theorem dX6_account_65 : decode cX6_account 65 = .ok (.getfield 10, 3) := by decide +kernel
theorem dX6_account_68 : decode cX6_account 68 = .ok (.getfield 149, 3) := by decide +kernel
theorem dX6_account_71 : decode cX6_account 71 = .ok (.ireturn, 1) := by decide +kernel
theorem dX6_account_72 : decode cX6_account 72 = .ok (.aload_n 0, 1) := by decide +kernel
theorem dX6_account_73 : decode cX6_account 73 = .ok (.getfield 10, 3) := by decide +kernel
theorem dX6_account_76 : decode cX6_account 76 = .ok (.invokevirtual 328, 3) := by decide +kernel
theorem dX6_account_79 : decode cX6_account 79 = .ok (.ireturn, 1) := by decide +kernel
theorem dX6_account_80 : decode cX6_account 80 = .ok (.aload_n 0, 1) := by decide +kernel
theorem dX6_account_81 : decode cX6_account 81 = .ok (.getfield 10, 3) := by decide +kernel
theorem dX6_account_84 : decode cX6_account 84 = .ok (.invokevirtual 331, 3) := by decide +kernel
theorem dX6_account_87 : decode cX6_account 87 = .ok (.ireturn, 1) := by decide +kernel
theorem dX6_account_88 : decode cX6_account 88 = .ok (.aload_n 0, 1) := by decide +kernel
theorem dX6_account_89 : decode cX6_account 89 = .ok (.getfield 10, 3) := by decide +kernel
theorem dX6_account_92 : decode cX6_account 92 = .ok (.invokevirtual 334, 3) := by decide +kernel
theorem dX6_account_95 : decode cX6_account 95 = .ok (.ireturn, 1) := by decide +kernel
theorem dX6_account_96 : decode cX6_account 96 = .ok (.aload_n 0, 1) := by decide +kernel
theorem dX6_account_97 : decode cX6_account 97 = .ok (.getfield 10, 3) := by decide +kernel
theorem dX6_account_100 : decode cX6_account 100 = .ok (.invokevirtual 337, 3) := by decide +kernel
theorem dX6_account_103 : decode cX6_account 103 = .ok (.ireturn, 1) := by decide +kernel
theorem dX6_account_104 : decode cX6_account 104 = .ok (.aload_n 0, 1) := by decide +kernel
theorem dX6_account_105 : decode cX6_account 105 = .ok (.getfield 10, 3) := by decide +kernel
theorem dX6_account_108 : decode cX6_account 108 = .ok (.getfield 309, 3) := by decide +kernel
theorem dX6_account_111 : decode cX6_account 111 = .ok (.ireturn, 1) := by decide +kernel
theorem dX6_account_112 : decode cX6_account 112 = .ok (.aload_n 0, 1) := by decide +kernel
theorem dX6_account_113 : decode cX6_account 113 = .ok (.getfield 10, 3) := by decide +kernel
theorem dX6_account_116 : decode cX6_account 116 = .ok (.getfield 340, 3) := by decide +kernel
theorem dX6_account_119 : decode cX6_account 119 = .ok (.ireturn, 1) := by decide +kernel
theorem dX6_account_120 : decode cX6_account 120 = .ok (.aload_n 0, 1) := by decide +kernel
theorem dX6_account_121 : decode cX6_account 121 = .ok (.getfield 10, 3) := by decide +kernel
theorem dX6_account_124 : decode cX6_account 124 = .ok (.getfield 343, 3) := by decide +kernel
theorem dX6_account_127 : decode cX6_account 127 = .ok (.ireturn, 1) := by decide +kernel
theorem dX6_account_128 : decode cX6_account 128 = .ok (.aload_n 0, 1) := by decide +kernel
theorem dX6_account_129 : decode cX6_account 129 = .ok (.getfield 10, 3) := by decide +kernel
theorem dX6_account_132 : decode cX6_account 132 = .ok (.invokevirtual 346, 3) := by decide +kernel
theorem dX6_account_135 : decode cX6_account 135 = .ok (.ireturn, 1) := by decide +kernel
theorem dX6_account_136 : decode cX6_account 136 = .ok (.new 60, 3) := by decide +kernel
theorem dX6_account_139 : decode cX6_account 139 = .ok (.dup, 1) := by decide +kernel
theorem dX6_account_140 : decode cX6_account 140 = .ok (.ldc_w 349, 3) := by decide +kernel
theorem dX6_account_143 : decode cX6_account 143 = .ok (.invokespecial 64, 3) := by decide +kernel
theorem dX6_account_146 : decode cX6_account 146 = .ok (.athrow, 1) := by decide +kernel
theorem dX6_meanLoad_0 : decode cX6_meanLoad 0 = .ok (.aload_n 0, 1) := by decide +kernel
theorem dX6_meanLoad_1 : decode cX6_meanLoad 1 = .ok (.getfield 10, 3) := by decide +kernel
theorem dX6_meanLoad_4 : decode cX6_meanLoad 4 = .ok (.getfield 47, 3) := by decide +kernel
theorem dX6_meanLoad_7 : decode cX6_meanLoad 7 = .ok (.ifCond .ne 14, 3) := by decide +kernel
theorem dX6_meanLoad_10 : decode cX6_meanLoad 10 = .ok (.new 351, 3) := by decide +kernel
theorem dX6_meanLoad_13 : decode cX6_meanLoad 13 = .ok (.dup, 1) := by decide +kernel
theorem dX6_meanLoad_14 : decode cX6_meanLoad 14 = .ok (.ldc_w 353, 3) := by decide +kernel
theorem dX6_meanLoad_17 : decode cX6_meanLoad 17 = .ok (.invokespecial 355, 3) := by decide +kernel
theorem dX6_meanLoad_20 : decode cX6_meanLoad 20 = .ok (.athrow, 1) := by decide +kernel
theorem dX6_meanLoad_21 : decode cX6_meanLoad 21 = .ok (.aload_n 0, 1) := by decide +kernel
theorem dX6_meanLoad_22 : decode cX6_meanLoad 22 = .ok (.getfield 10, 3) := by decide +kernel
theorem dX6_meanLoad_25 : decode cX6_meanLoad 25 = .ok (.invokevirtual 356, 3) := by decide +kernel
theorem dX6_meanLoad_28 : decode cX6_meanLoad 28 = .ok (.i2d, 1) := by decide +kernel
theorem dX6_meanLoad_29 : decode cX6_meanLoad 29 = .ok (.aload_n 0, 1) := by decide +kernel
theorem dX6_meanLoad_30 : decode cX6_meanLoad 30 = .ok (.getfield 10, 3) := by decide +kernel
theorem dX6_meanLoad_33 : decode cX6_meanLoad 33 = .ok (.getfield 47, 3) := by decide +kernel
theorem dX6_meanLoad_36 : decode cX6_meanLoad 36 = .ok (.i2d, 1) := by decide +kernel
theorem dX6_meanLoad_37 : decode cX6_meanLoad 37 = .ok (.ddiv, 1) := by decide +kernel
theorem dX6_meanLoad_38 : decode cX6_meanLoad 38 = .ok (.dreturn, 1) := by decide +kernel
theorem dX6_append_0 : decode cX6_append 0 = .ok (.iload_n 1, 1) := by decide +kernel
theorem dX6_append_1 : decode cX6_append 1 = .ok (.bipush 32, 2) := by decide +kernel
theorem dX6_append_3 : decode cX6_append 3 = .ok (.if_icmp .lt 9, 3) := by decide +kernel
theorem dX6_append_6 : decode cX6_append 6 = .ok (.iload_n 1, 1) := by decide +kernel
theorem dX6_append_7 : decode cX6_append 7 = .ok (.bipush 126, 2) := by decide +kernel
theorem dX6_append_9 : decode cX6_append 9 = .ok (.if_icmp .le 14, 3) := by decide +kernel
theorem dX6_append_12 : decode cX6_append 12 = .ok (.new 60, 3) := by decide +kernel
theorem dX6_append_15 : decode cX6_append 15 = .ok (.dup, 1) := by decide +kernel
theorem dX6_append_16 : decode cX6_append 16 = .ok (.ldc_w 359, 3) := by decide +kernel
theorem dX6_append_19 : decode cX6_append 19 = .ok (.invokespecial 64, 3) := by decide +kernel
theorem dX6_append_22 : decode cX6_append 22 = .ok (.athrow, 1) := by decide +kernel
theorem dX6_append_23 : decode cX6_append 23 = .ok (.aload_n 0, 1) := by decide +kernel
theorem dX6_append_24 : decode cX6_append 24 = .ok (.getfield 29, 3) := by decide +kernel
theorem dX6_append_27 : decode cX6_append 27 = .ok (.iload_n 1, 1) := by decide +kernel
theorem dX6_append_28 : decode cX6_append 28 = .ok (.invokevirtual 361, 3) := by decide +kernel
theorem dX6_append_31 : decode cX6_append 31 = .ok (.ifCond .ne 14, 3) := by decide +kernel
theorem dX6_append_34 : decode cX6_append 34 = .ok (.new 67, 3) := by decide +kernel
theorem dX6_append_37 : decode cX6_append 37 = .ok (.dup, 1) := by decide +kernel
theorem dX6_append_38 : decode cX6_append 38 = .ok (.ldc_w 365, 3) := by decide +kernel
theorem dX6_append_41 : decode cX6_append 41 = .ok (.invokespecial 71, 3) := by decide +kernel
theorem dX6_append_44 : decode cX6_append 44 = .ok (.athrow, 1) := by decide +kernel
theorem dX6_append_45 : decode cX6_append 45 = .ok (.aload_n 0, 1) := by decide +kernel
theorem dX6_append_46 : decode cX6_append 46 = .ok (.getfield 29, 3) := by decide +kernel
theorem dX6_append_49 : decode cX6_append 49 = .ok (.getfield 367, 3) := by decide +kernel
theorem dX6_append_52 : decode cX6_append 52 = .ok (.ireturn, 1) := by decide +kernel
theorem dX6_read_0 : decode cX6_read 0 = .ok (.aload_n 0, 1) := by decide +kernel
theorem dX6_read_1 : decode cX6_read 1 = .ok (.getfield 29, 3) := by decide +kernel
theorem dX6_read_4 : decode cX6_read 4 = .ok (.invokevirtual 370, 3) := by decide +kernel
theorem dX6_read_7 : decode cX6_read 7 = .ok (.istore_n 1, 1) := by decide +kernel
theorem dX6_read_8 : decode cX6_read 8 = .ok (.iload_n 1, 1) := by decide +kernel
theorem dX6_read_9 : decode cX6_read 9 = .ok (.iconst (-1), 1) := by decide +kernel
theorem dX6_read_10 : decode cX6_read 10 = .ok (.if_icmp .eq 19, 3) := by decide +kernel
theorem dX6_read_13 : decode cX6_read 13 = .ok (.aload_n 0, 1) := by decide +kernel
theorem dX6_read_14 : decode cX6_read 14 = .ok (.iload_n 1, 1) := by decide +kernel
theorem dX6_read_15 : decode cX6_read 15 = .ok (.putfield 44, 3) := by decide +kernel
theorem dX6_read_18 : decode cX6_read 18 = .ok (.new 60, 3) := by decide +kernel
theorem dX6_read_21 : decode cX6_read 21 = .ok (.dup, 1) := by decide +kernel
theorem dX6_read_22 : decode cX6_read 22 = .ok (.ldc_w 373, 3) := by decide +kernel
theorem dX6_read_25 : decode cX6_read 25 = .ok (.invokespecial 64, 3) := by decide +kernel
theorem dX6_read_28 : decode cX6_read 28 = .ok (.athrow, 1) := by decide +kernel
theorem dX6_read_29 : decode cX6_read 29 = .ok (.aload_n 0, 1) := by decide +kernel
theorem dX6_read_30 : decode cX6_read 30 = .ok (.getfield 22, 3) := by decide +kernel
theorem dX6_read_33 : decode cX6_read 33 = .ok (.aload_n 0, 1) := by decide +kernel
theorem dX6_read_34 : decode cX6_read 34 = .ok (.getfield 10, 3) := by decide +kernel
theorem dX6_read_37 : decode cX6_read 37 = .ok (.invokevirtual 375, 3) := by decide +kernel
theorem dX6_read_40 : decode cX6_read 40 = .ok (.iconst 0, 1) := by decide +kernel
theorem dX6_read_41 : decode cX6_read 41 = .ok (.istore_n 2, 1) := by decide +kernel
theorem dX6_read_42 : decode cX6_read 42 = .ok (.iconst 0, 1) := by decide +kernel
theorem dX6_read_43 : decode cX6_read 43 = .ok (.istore_n 3, 1) := by decide +kernel
theorem dX6_read_44 : decode cX6_read 44 = .ok (.iload_n 3, 1) := by decide +kernel
theorem dX6_read_45 : decode cX6_read 45 = .ok (.aload_n 0, 1) := by decide +kernel
theorem dX6_read_46 : decode cX6_read 46 = .ok (.getfield 29, 3) := by decide +kernel
theorem dX6_read_49 : decode cX6_read 49 = .ok (.getfield 378, 3) := by decide +kernel
theorem dX6_read_52 : decode cX6_read 52 = .ok (.if_icmp .ge 66, 3) := by decide +kernel
theorem dX6_read_55 : decode cX6_read 55 = .ok (.iload_n 2, 1) := by decide +kernel
theorem dX6_read_56 : decode cX6_read 56 = .ok (.ifCond .ne 62, 3) := by decide +kernel
theorem dX6_read_59 : decode cX6_read 59 = .ok (.aload_n 0, 1) := by decide +kernel
theorem dX6_read_60 : decode cX6_read 60 = .ok (.getfield 10, 3) := by decide +kernel
theorem dX6_read_63 : decode cX6_read 63 = .ok (.aload_n 0, 1) := by decide +kernel
theorem dX6_read_64 : decode cX6_read 64 = .ok (.getfield 29, 3) := by decide +kernel
theorem dX6_read_67 : decode cX6_read 67 = .ok (.iload_n 3, 1) := by decide +kernel
theorem dX6_read_68 : decode cX6_read 68 = .ok (.iconst 0, 1) := by decide +kernel
theorem dX6_read_69 : decode cX6_read 69 = .ok (.invokevirtual 381, 3) := by decide +kernel
theorem dX6_read_72 : decode cX6_read 72 = .ok (.aload_n 0, 1) := by decide +kernel
theorem dX6_read_73 : decode cX6_read 73 = .ok (.getfield 29, 3) := by decide +kernel
theorem dX6_read_76 : decode cX6_read 76 = .ok (.iload_n 3, 1) := by decide +kernel
theorem dX6_read_77 : decode cX6_read 77 = .ok (.iconst 1, 1) := by decide +kernel
theorem dX6_read_78 : decode cX6_read 78 = .ok (.invokevirtual 381, 3) := by decide +kernel
theorem dX6_read_81 : decode cX6_read 81 = .ok (.aload_n 0, 1) := by decide +kernel
theorem dX6_read_82 : decode cX6_read 82 = .ok (.getfield 29, 3) := by decide +kernel
theorem dX6_read_85 : decode cX6_read 85 = .ok (.iload_n 3, 1) := by decide +kernel
theorem dX6_read_86 : decode cX6_read 86 = .ok (.iconst 2, 1) := by decide +kernel
theorem dX6_read_87 : decode cX6_read 87 = .ok (.invokevirtual 381, 3) := by decide +kernel
theorem dX6_read_90 : decode cX6_read 90 = .ok (.aload_n 0, 1) := by decide +kernel
theorem dX6_read_91 : decode cX6_read 91 = .ok (.getfield 29, 3) := by decide +kernel
theorem dX6_read_94 : decode cX6_read 94 = .ok (.iload_n 3, 1) := by decide +kernel
theorem dX6_read_95 : decode cX6_read 95 = .ok (.iconst 3, 1) := by decide +kernel
theorem dX6_read_96 : decode cX6_read 96 = .ok (.invokevirtual 381, 3) := by decide +kernel
theorem dX6_read_99 : decode cX6_read 99 = .ok (.aload_n 0, 1) := by decide +kernel
theorem dX6_read_100 : decode cX6_read 100 = .ok (.getfield 29, 3) := by decide +kernel
theorem dX6_read_103 : decode cX6_read 103 = .ok (.iload_n 3, 1) := by decide +kernel
theorem dX6_read_104 : decode cX6_read 104 = .ok (.iconst 4, 1) := by decide +kernel
theorem dX6_read_105 : decode cX6_read 105 = .ok (.invokevirtual 381, 3) := by decide +kernel
theorem dX6_read_108 : decode cX6_read 108 = .ok (.invokevirtual 385, 3) := by decide +kernel
theorem dX6_read_111 : decode cX6_read 111 = .ok (.istore_n 2, 1) := by decide +kernel
theorem dX6_read_112 : decode cX6_read 112 = .ok (.iinc 3 1, 3) := by decide +kernel
theorem dX6_read_115 : decode cX6_read 115 = .ok (.goto (-71), 3) := by decide +kernel
theorem dX6_read_118 : decode cX6_read 118 = .ok (.iload_n 2, 1) := by decide +kernel
theorem dX6_read_119 : decode cX6_read 119 = .ok (.ifCond .eq 35, 3) := by decide +kernel
theorem dX6_read_122 : decode cX6_read 122 = .ok (.aload_n 0, 1) := by decide +kernel
theorem dX6_read_123 : decode cX6_read 123 = .ok (.getfield 22, 3) := by decide +kernel
theorem dX6_read_126 : decode cX6_read 126 = .ok (.aload_n 0, 1) := by decide +kernel
theorem dX6_read_127 : decode cX6_read 127 = .ok (.getfield 10, 3) := by decide +kernel
theorem dX6_read_130 : decode cX6_read 130 = .ok (.invokevirtual 389, 3) := by decide +kernel
theorem dX6_read_133 : decode cX6_read 133 = .ok (.iload_n 2, 1) := by decide +kernel
theorem dX6_read_134 : decode cX6_read 134 = .ok (.iconst (-1), 1) := by decide +kernel
theorem dX6_read_135 : decode cX6_read 135 = .ok (.if_icmp .eq 8, 3) := by decide +kernel
theorem dX6_read_138 : decode cX6_read 138 = .ok (.aload_n 0, 1) := by decide +kernel
theorem dX6_read_139 : decode cX6_read 139 = .ok (.iload_n 2, 1) := by decide +kernel
theorem dX6_read_140 : decode cX6_read 140 = .ok (.putfield 40, 3) := by decide +kernel
theorem dX6_read_143 : decode cX6_read 143 = .ok (.new 67, 3) := by decide +kernel
theorem dX6_read_146 : decode cX6_read 146 = .ok (.dup, 1) := by decide +kernel
theorem dX6_read_147 : decode cX6_read 147 = .ok (.ldc_w 392, 3) := by decide +kernel
theorem dX6_read_150 : decode cX6_read 150 = .ok (.invokespecial 71, 3) := by decide +kernel
theorem dX6_read_153 : decode cX6_read 153 = .ok (.athrow, 1) := by decide +kernel
theorem dX6_read_154 : decode cX6_read 154 = .ok (.aload_n 0, 1) := by decide +kernel
theorem dX6_read_155 : decode cX6_read 155 = .ok (.getfield 22, 3) := by decide +kernel
theorem dX6_read_158 : decode cX6_read 158 = .ok (.invokevirtual 394, 3) := by decide +kernel
theorem dX6_read_161 : decode cX6_read 161 = .ok (.aload_n 0, 1) := by decide +kernel
theorem dX6_read_162 : decode cX6_read 162 = .ok (.getfield 29, 3) := by decide +kernel
theorem dX6_read_165 : decode cX6_read 165 = .ok (.getfield 378, 3) := by decide +kernel
theorem dX6_read_168 : decode cX6_read 168 = .ok (.ireturn, 1) := by decide +kernel
theorem dX6_errorPosition_0 : decode cX6_errorPosition 0 = .ok (.aload_n 0, 1) := by decide +kernel
theorem dX6_errorPosition_1 : decode cX6_errorPosition 1 = .ok (.getfield 44, 3) := by decide +kernel
theorem dX6_errorPosition_4 : decode cX6_errorPosition 4 = .ok (.iconst (-1), 1) := by decide +kernel
theorem dX6_errorPosition_5 : decode cX6_errorPosition 5 = .ok (.if_icmp .ne 14, 3) := by decide +kernel
theorem dX6_errorPosition_8 : decode cX6_errorPosition 8 = .ok (.new 142, 3) := by decide +kernel
theorem dX6_errorPosition_11 : decode cX6_errorPosition 11 = .ok (.dup, 1) := by decide +kernel
theorem dX6_errorPosition_12 : decode cX6_errorPosition 12 = .ok (.ldc_w 397, 3) := by decide +kernel
theorem dX6_errorPosition_15 : decode cX6_errorPosition 15 = .ok (.invokespecial 146, 3) := by decide +kernel
theorem dX6_errorPosition_18 : decode cX6_errorPosition 18 = .ok (.athrow, 1) := by decide +kernel
theorem dX6_errorPosition_19 : decode cX6_errorPosition 19 = .ok (.aload_n 0, 1) := by decide +kernel
theorem dX6_errorPosition_20 : decode cX6_errorPosition 20 = .ok (.getfield 44, 3) := by decide +kernel
theorem dX6_errorPosition_23 : decode cX6_errorPosition 23 = .ok (.ireturn, 1) := by decide +kernel
theorem dX6_undo_0 : decode cX6_undo 0 = .ok (.aload_n 0, 1) := by decide +kernel
theorem dX6_undo_1 : decode cX6_undo 1 = .ok (.getfield 22, 3) := by decide +kernel
theorem dX6_undo_4 : decode cX6_undo 4 = .ok (.getfield 399, 3) := by decide +kernel
theorem dX6_undo_7 : decode cX6_undo 7 = .ok (.ifCond .ne 14, 3) := by decide +kernel
theorem dX6_undo_10 : decode cX6_undo 10 = .ok (.new 142, 3) := by decide +kernel
theorem dX6_undo_13 : decode cX6_undo 13 = .ok (.dup, 1) := by decide +kernel
theorem dX6_undo_14 : decode cX6_undo 14 = .ok (.ldc_w 402, 3) := by decide +kernel
theorem dX6_undo_17 : decode cX6_undo 17 = .ok (.invokespecial 146, 3) := by decide +kernel
theorem dX6_undo_20 : decode cX6_undo 20 = .ok (.athrow, 1) := by decide +kernel
theorem dX6_undo_21 : decode cX6_undo 21 = .ok (.aload_n 0, 1) := by decide +kernel
theorem dX6_undo_22 : decode cX6_undo 22 = .ok (.getfield 22, 3) := by decide +kernel
theorem dX6_undo_25 : decode cX6_undo 25 = .ok (.aload_n 0, 1) := by decide +kernel
theorem dX6_undo_26 : decode cX6_undo 26 = .ok (.getfield 10, 3) := by decide +kernel
theorem dX6_undo_29 : decode cX6_undo 29 = .ok (.invokevirtual 404, 3) := by decide +kernel
theorem dX6_undo_32 : decode cX6_undo 32 = .ok (.aload_n 0, 1) := by decide +kernel
theorem dX6_undo_33 : decode cX6_undo 33 = .ok (.getfield 22, 3) := by decide +kernel
theorem dX6_undo_36 : decode cX6_undo 36 = .ok (.getfield 399, 3) := by decide +kernel
theorem dX6_undo_39 : decode cX6_undo 39 = .ok (.ireturn, 1) := by decide +kernel
theorem dX6_save_0 : decode cX6_save 0 = .ok (.aload_n 0, 1) := by decide +kernel
theorem dX6_save_1 : decode cX6_save 1 = .ok (.getfield 16, 3) := by decide +kernel
theorem dX6_save_4 : decode cX6_save 4 = .ok (.aload_n 0, 1) := by decide +kernel
theorem dX6_save_5 : decode cX6_save 5 = .ok (.getfield 10, 3) := by decide +kernel
theorem dX6_save_8 : decode cX6_save 8 = .ok (.invokevirtual 407, 3) := by decide +kernel
theorem dX6_save_11 : decode cX6_save 11 = .ok (.aload_n 0, 1) := by decide +kernel
theorem dX6_save_12 : decode cX6_save 12 = .ok (.iconst 1, 1) := by decide +kernel
theorem dX6_save_13 : decode cX6_save 13 = .ok (.putfield 410, 3) := by decide +kernel
theorem dX6_save_16 : decode cX6_save 16 = .ok (.aload_n 0, 1) := by decide +kernel
theorem dX6_save_17 : decode cX6_save 17 = .ok (.getfield 10, 3) := by decide +kernel
theorem dX6_save_20 : decode cX6_save 20 = .ok (.getfield 149, 3) := by decide +kernel
theorem dX6_save_23 : decode cX6_save 23 = .ok (.ireturn, 1) := by decide +kernel
theorem dX6_restore_0 : decode cX6_restore 0 = .ok (.aload_n 0, 1) := by decide +kernel
theorem dX6_restore_1 : decode cX6_restore 1 = .ok (.getfield 410, 3) := by decide +kernel
theorem dX6_restore_4 : decode cX6_restore 4 = .ok (.ifCond .ne 14, 3) := by decide +kernel
theorem dX6_restore_7 : decode cX6_restore 7 = .ok (.new 67, 3) := by decide +kernel
theorem dX6_restore_10 : decode cX6_restore 10 = .ok (.dup, 1) := by decide +kernel
theorem dX6_restore_11 : decode cX6_restore 11 = .ok (.ldc_w 414, 3) := by decide +kernel
theorem dX6_restore_14 : decode cX6_restore 14 = .ok (.invokespecial 71, 3) := by decide +kernel
theorem dX6_restore_17 : decode cX6_restore 17 = .ok (.athrow, 1) := by decide +kernel
theorem dX6_restore_18 : decode cX6_restore 18 = .ok (.aload_n 0, 1) := by decide +kernel
theorem dX6_restore_19 : decode cX6_restore 19 = .ok (.getfield 10, 3) := by decide +kernel
theorem dX6_restore_22 : decode cX6_restore 22 = .ok (.aload_n 0, 1) := by decide +kernel
theorem dX6_restore_23 : decode cX6_restore 23 = .ok (.getfield 16, 3) := by decide +kernel
theorem dX6_restore_26 : decode cX6_restore 26 = .ok (.invokevirtual 407, 3) := by decide +kernel
theorem dX6_restore_29 : decode cX6_restore 29 = .ok (.aload_n 0, 1) := by decide +kernel
theorem dX6_restore_30 : decode cX6_restore 30 = .ok (.getfield 22, 3) := by decide +kernel
theorem dX6_restore_33 : decode cX6_restore 33 = .ok (.invokevirtual 53, 3) := by decide +kernel
theorem dX6_restore_36 : decode cX6_restore 36 = .ok (.aload_n 0, 1) := by decide +kernel
theorem dX6_restore_37 : decode cX6_restore 37 = .ok (.getfield 10, 3) := by decide +kernel
theorem dX6_restore_40 : decode cX6_restore 40 = .ok (.getfield 149, 3) := by decide +kernel
theorem dX6_restore_43 : decode cX6_restore 43 = .ok (.ireturn, 1) := by decide +kernel
theorem dX6_personOf_0 : decode cX6_personOf 0 = .ok (.iload_n 1, 1) := by decide +kernel
theorem dX6_personOf_1 : decode cX6_personOf 1 = .ok (.aload_n 0, 1) := by decide +kernel
theorem dX6_personOf_2 : decode cX6_personOf 2 = .ok (.getfield 10, 3) := by decide +kernel
theorem dX6_personOf_5 : decode cX6_personOf 5 = .ok (.getfield 47, 3) := by decide +kernel
theorem dX6_personOf_8 : decode cX6_personOf 8 = .ok (.invokestatic 56, 3) := by decide +kernel
theorem dX6_personOf_11 : decode cX6_personOf 11 = .ok (.ifCond .ne 14, 3) := by decide +kernel
theorem dX6_personOf_14 : decode cX6_personOf 14 = .ok (.new 416, 3) := by decide +kernel
theorem dX6_personOf_17 : decode cX6_personOf 17 = .ok (.dup, 1) := by decide +kernel
theorem dX6_personOf_18 : decode cX6_personOf 18 = .ok (.ldc_w 418, 3) := by decide +kernel
theorem dX6_personOf_21 : decode cX6_personOf 21 = .ok (.invokespecial 420, 3) := by decide +kernel
theorem dX6_personOf_24 : decode cX6_personOf 24 = .ok (.athrow, 1) := by decide +kernel
theorem dX6_personOf_25 : decode cX6_personOf 25 = .ok (.aload_n 0, 1) := by decide +kernel
theorem dX6_personOf_26 : decode cX6_personOf 26 = .ok (.getfield 10, 3) := by decide +kernel
theorem dX6_personOf_29 : decode cX6_personOf 29 = .ok (.getfield 421, 3) := by decide +kernel
theorem dX6_personOf_32 : decode cX6_personOf 32 = .ok (.iload_n 1, 1) := by decide +kernel
theorem dX6_personOf_33 : decode cX6_personOf 33 = .ok (.aaload, 1) := by decide +kernel
theorem dX6_personOf_34 : decode cX6_personOf 34 = .ok (.areturn, 1) := by decide +kernel
theorem dX6_thesisOf_0 : decode cX6_thesisOf 0 = .ok (.iload_n 1, 1) := by decide +kernel
theorem dX6_thesisOf_1 : decode cX6_thesisOf 1 = .ok (.aload_n 0, 1) := by decide +kernel
theorem dX6_thesisOf_2 : decode cX6_thesisOf 2 = .ok (.getfield 10, 3) := by decide +kernel
theorem dX6_thesisOf_5 : decode cX6_thesisOf 5 = .ok (.getfield 149, 3) := by decide +kernel
theorem dX6_thesisOf_8 : decode cX6_thesisOf 8 = .ok (.invokestatic 56, 3) := by decide +kernel
theorem dX6_thesisOf_11 : decode cX6_thesisOf 11 = .ok (.ifCond .ne 14, 3) := by decide +kernel
theorem dX6_thesisOf_14 : decode cX6_thesisOf 14 = .ok (.new 416, 3) := by decide +kernel
theorem dX6_thesisOf_17 : decode cX6_thesisOf 17 = .ok (.dup, 1) := by decide +kernel
theorem dX6_thesisOf_18 : decode cX6_thesisOf 18 = .ok (.ldc_w 425, 3) := by decide +kernel
theorem dX6_thesisOf_21 : decode cX6_thesisOf 21 = .ok (.invokespecial 420, 3) := by decide +kernel
theorem dX6_thesisOf_24 : decode cX6_thesisOf 24 = .ok (.athrow, 1) := by decide +kernel
theorem dX6_thesisOf_25 : decode cX6_thesisOf 25 = .ok (.aload_n 0, 1) := by decide +kernel
theorem dX6_thesisOf_26 : decode cX6_thesisOf 26 = .ok (.getfield 10, 3) := by decide +kernel
theorem dX6_thesisOf_29 : decode cX6_thesisOf 29 = .ok (.getfield 427, 3) := by decide +kernel
theorem dX6_thesisOf_32 : decode cX6_thesisOf 32 = .ok (.iload_n 1, 1) := by decide +kernel
theorem dX6_thesisOf_33 : decode cX6_thesisOf 33 = .ok (.aaload, 1) := by decide +kernel
theorem dX6_thesisOf_34 : decode cX6_thesisOf 34 = .ok (.areturn, 1) := by decide +kernel
theorem dX6_requireRoom_0 : decode cX6_requireRoom 0 = .ok (.iload_n 0, 1) := by decide +kernel
theorem dX6_requireRoom_1 : decode cX6_requireRoom 1 = .ok (.iconst 3, 1) := by decide +kernel
theorem dX6_requireRoom_2 : decode cX6_requireRoom 2 = .ok (.invokestatic 56, 3) := by decide +kernel
theorem dX6_requireRoom_5 : decode cX6_requireRoom 5 = .ok (.ifCond .ne 14, 3) := by decide +kernel
theorem dX6_requireRoom_8 : decode cX6_requireRoom 8 = .ok (.new 416, 3) := by decide +kernel
theorem dX6_requireRoom_11 : decode cX6_requireRoom 11 = .ok (.dup, 1) := by decide +kernel
theorem dX6_requireRoom_12 : decode cX6_requireRoom 12 = .ok (.ldc_w 431, 3) := by decide +kernel
theorem dX6_requireRoom_15 : decode cX6_requireRoom 15 = .ok (.invokespecial 420, 3) := by decide +kernel
theorem dX6_requireRoom_18 : decode cX6_requireRoom 18 = .ok (.athrow, 1) := by decide +kernel
theorem dX6_requireRoom_19 : decode cX6_requireRoom 19 = .ok (.return_, 1) := by decide +kernel
theorem dX6_requireDayAndHour_0 : decode cX6_requireDayAndHour 0 = .ok (.iload_n 0, 1) := by decide +kernel
theorem dX6_requireDayAndHour_1 : decode cX6_requireDayAndHour 1 = .ok (.invokestatic 433, 3) := by decide +kernel
theorem dX6_requireDayAndHour_4 : decode cX6_requireDayAndHour 4 = .ok (.ifCond .eq 12, 3) := by decide +kernel
theorem dX6_requireDayAndHour_7 : decode cX6_requireDayAndHour 7 = .ok (.iload_n 1, 1) := by decide +kernel
theorem dX6_requireDayAndHour_8 : decode cX6_requireDayAndHour 8 = .ok (.ifCond .lt 8, 3) := by decide +kernel
theorem dX6_requireDayAndHour_11 : decode cX6_requireDayAndHour 11 = .ok (.iload_n 1, 1) := by decide +kernel
theorem dX6_requireDayAndHour_12 : decode cX6_requireDayAndHour 12 = .ok (.iload_n 2, 1) := by decide +kernel
theorem dX6_requireDayAndHour_13 : decode cX6_requireDayAndHour 13 = .ok (.if_icmp .le 14, 3) := by decide +kernel
theorem dX6_requireDayAndHour_16 : decode cX6_requireDayAndHour 16 = .ok (.new 60, 3) := by decide +kernel
theorem dX6_requireDayAndHour_19 : decode cX6_requireDayAndHour 19 = .ok (.dup, 1) := by decide +kernel
theorem dX6_requireDayAndHour_20 : decode cX6_requireDayAndHour 20 = .ok (.ldc_w 436, 3) := by decide +kernel
theorem dX6_requireDayAndHour_23 : decode cX6_requireDayAndHour 23 = .ok (.invokespecial 64, 3) := by decide +kernel
theorem dX6_requireDayAndHour_26 : decode cX6_requireDayAndHour 26 = .ok (.athrow, 1) := by decide +kernel
theorem dX6_requireDayAndHour_27 : decode cX6_requireDayAndHour 27 = .ok (.return_, 1) := by decide +kernel
theorem dX6_requireMember_0 : decode cX6_requireMember 0 = .ok (.aload_n 0, 1) := by decide +kernel
theorem dX6_requireMember_1 : decode cX6_requireMember 1 = .ok (.aload_n 1, 1) := by decide +kernel
theorem dX6_requireMember_2 : decode cX6_requireMember 2 = .ok (.getfield 176, 3) := by decide +kernel
theorem dX6_requireMember_5 : decode cX6_requireMember 5 = .ok (.invokevirtual 91, 3) := by decide +kernel
theorem dX6_requireMember_8 : decode cX6_requireMember 8 = .ok (.ifCond .ne 14, 3) := by decide +kernel
theorem dX6_requireMember_11 : decode cX6_requireMember 11 = .ok (.new 67, 3) := by decide +kernel
theorem dX6_requireMember_14 : decode cX6_requireMember 14 = .ok (.dup, 1) := by decide +kernel
theorem dX6_requireMember_15 : decode cX6_requireMember 15 = .ok (.ldc_w 438, 3) := by decide +kernel
theorem dX6_requireMember_18 : decode cX6_requireMember 18 = .ok (.invokespecial 71, 3) := by decide +kernel
theorem dX6_requireMember_21 : decode cX6_requireMember 21 = .ok (.athrow, 1) := by decide +kernel
theorem dX6_requireMember_22 : decode cX6_requireMember 22 = .ok (.return_, 1) := by decide +kernel
theorem dX6_refuseFor_0 : decode cX6_refuseFor 0 = .ok (.iload_n 1, 1) := by decide +kernel
theorem dX6_refuseFor_1 : decode cX6_refuseFor 1 = .ok (.ifCond .eq 19, 3) := by decide +kernel
theorem dX6_refuseFor_4 : decode cX6_refuseFor 4 = .ok (.aload_n 0, 1) := by decide +kernel
theorem dX6_refuseFor_5 : decode cX6_refuseFor 5 = .ok (.iload_n 1, 1) := by decide +kernel
theorem dX6_refuseFor_6 : decode cX6_refuseFor 6 = .ok (.putfield 40, 3) := by decide +kernel
theorem dX6_refuseFor_9 : decode cX6_refuseFor 9 = .ok (.new 440, 3) := by decide +kernel
theorem dX6_refuseFor_12 : decode cX6_refuseFor 12 = .ok (.dup, 1) := by decide +kernel
theorem dX6_refuseFor_13 : decode cX6_refuseFor 13 = .ok (.ldc_w 442, 3) := by decide +kernel
theorem dX6_refuseFor_16 : decode cX6_refuseFor 16 = .ok (.invokespecial 444, 3) := by decide +kernel
theorem dX6_refuseFor_19 : decode cX6_refuseFor 19 = .ok (.athrow, 1) := by decide +kernel
theorem dX6_refuseFor_20 : decode cX6_refuseFor 20 = .ok (.return_, 1) := by decide +kernel
theorem dX6_completionOf_0 : decode cX6_completionOf 0 = .ok (.aload_n 0, 1) := by decide +kernel
theorem dX6_completionOf_1 : decode cX6_completionOf 1 = .ok (.getfield 36, 3) := by decide +kernel
theorem dX6_completionOf_4 : decode cX6_completionOf 4 = .ok (.aload_n 0, 1) := by decide +kernel
theorem dX6_completionOf_5 : decode cX6_completionOf 5 = .ok (.getfield 10, 3) := by decide +kernel
theorem dX6_completionOf_8 : decode cX6_completionOf 8 = .ok (.aload_n 1, 1) := by decide +kernel
theorem dX6_completionOf_9 : decode cX6_completionOf 9 = .ok (.invokevirtual 445, 3) := by decide +kernel
theorem dX6_completionOf_12 : decode cX6_completionOf 12 = .ok (.istore_n 2, 1) := by decide +kernel
theorem dX6_completionOf_13 : decode cX6_completionOf 13 = .ok (.iload_n 2, 1) := by decide +kernel
theorem dX6_completionOf_14 : decode cX6_completionOf 14 = .ok (.iconst (-1), 1) := by decide +kernel
theorem dX6_completionOf_15 : decode cX6_completionOf 15 = .ok (.if_icmp .ne 14, 3) := by decide +kernel
theorem dX6_completionOf_18 : decode cX6_completionOf 18 = .ok (.new 142, 3) := by decide +kernel
theorem dX6_completionOf_21 : decode cX6_completionOf 21 = .ok (.dup, 1) := by decide +kernel
theorem dX6_completionOf_22 : decode cX6_completionOf 22 = .ok (.ldc_w 449, 3) := by decide +kernel
theorem dX6_completionOf_25 : decode cX6_completionOf 25 = .ok (.invokespecial 146, 3) := by decide +kernel
theorem dX6_completionOf_28 : decode cX6_completionOf 28 = .ok (.athrow, 1) := by decide +kernel
theorem dX6_completionOf_29 : decode cX6_completionOf 29 = .ok (.iload_n 2, 1) := by decide +kernel
theorem dX6_completionOf_30 : decode cX6_completionOf 30 = .ok (.ireturn, 1) := by decide +kernel
theorem dX6_isBelow_0 : decode cX6_isBelow 0 = .ok (.iload_n 0, 1) := by decide +kernel
theorem dX6_isBelow_1 : decode cX6_isBelow 1 = .ok (.ifCond .lt 12, 3) := by decide +kernel
theorem dX6_isBelow_4 : decode cX6_isBelow 4 = .ok (.iload_n 0, 1) := by decide +kernel
theorem dX6_isBelow_5 : decode cX6_isBelow 5 = .ok (.iload_n 1, 1) := by decide +kernel
theorem dX6_isBelow_6 : decode cX6_isBelow 6 = .ok (.if_icmp .ge 7, 3) := by decide +kernel
theorem dX6_isBelow_9 : decode cX6_isBelow 9 = .ok (.iconst 1, 1) := by decide +kernel
theorem dX6_isBelow_10 : decode cX6_isBelow 10 = .ok (.goto 4, 3) := by decide +kernel
theorem dX6_isBelow_13 : decode cX6_isBelow 13 = .ok (.iconst 0, 1) := by decide +kernel
theorem dX6_isBelow_14 : decode cX6_isBelow 14 = .ok (.ireturn, 1) := by decide +kernel
theorem dX6_isDay_0 : decode cX6_isDay 0 = .ok (.iload_n 0, 1) := by decide +kernel
theorem dX6_isDay_1 : decode cX6_isDay 1 = .ok (.ifCond .lt 14, 3) := by decide +kernel
theorem dX6_isDay_4 : decode cX6_isDay 4 = .ok (.iload_n 0, 1) := by decide +kernel
theorem dX6_isDay_5 : decode cX6_isDay 5 = .ok (.sipush 400, 3) := by decide +kernel
theorem dX6_isDay_8 : decode cX6_isDay 8 = .ok (.if_icmp .gt 7, 3) := by decide +kernel
theorem dX6_isDay_11 : decode cX6_isDay 11 = .ok (.iconst 1, 1) := by decide +kernel
theorem dX6_isDay_12 : decode cX6_isDay 12 = .ok (.goto 4, 3) := by decide +kernel
theorem dX6_isDay_15 : decode cX6_isDay 15 = .ok (.iconst 0, 1) := by decide +kernel
theorem dX6_isDay_16 : decode cX6_isDay 16 = .ok (.ireturn, 1) := by decide +kernel
theorem dX7_init_0 : decode cX7_init 0 = .ok (.aload_n 0, 1) := by decide +kernel
theorem dX7_init_1 : decode cX7_init 1 = .ok (.invokespecial 1, 3) := by decide +kernel
theorem dX7_init_4 : decode cX7_init 4 = .ok (.aload_n 0, 1) := by decide +kernel
theorem dX7_init_5 : decode cX7_init 5 = .ok (.bipush 14, 2) := by decide +kernel
theorem dX7_init_7 : decode cX7_init 7 = .ok (.newarray .int, 2) := by decide +kernel
theorem dX7_init_9 : decode cX7_init 9 = .ok (.putfield 7, 3) := by decide +kernel
theorem dX7_init_12 : decode cX7_init 12 = .ok (.aload_n 0, 1) := by decide +kernel
theorem dX7_init_13 : decode cX7_init 13 = .ok (.bipush 14, 2) := by decide +kernel
theorem dX7_init_15 : decode cX7_init 15 = .ok (.newarray .int, 2) := by decide +kernel
theorem dX7_init_17 : decode cX7_init 17 = .ok (.putfield 13, 3) := by decide +kernel
theorem dX7_init_20 : decode cX7_init 20 = .ok (.aload_n 0, 1) := by decide +kernel
theorem dX7_init_21 : decode cX7_init 21 = .ok (.bipush 14, 2) := by decide +kernel
theorem dX7_init_23 : decode cX7_init 23 = .ok (.newarray .int, 2) := by decide +kernel
theorem dX7_init_25 : decode cX7_init 25 = .ok (.putfield 16, 3) := by decide +kernel
theorem dX7_init_28 : decode cX7_init 28 = .ok (.aload_n 0, 1) := by decide +kernel
theorem dX7_init_29 : decode cX7_init 29 = .ok (.bipush 14, 2) := by decide +kernel
theorem dX7_init_31 : decode cX7_init 31 = .ok (.newarray .int, 2) := by decide +kernel
theorem dX7_init_33 : decode cX7_init 33 = .ok (.putfield 19, 3) := by decide +kernel
theorem dX7_init_36 : decode cX7_init 36 = .ok (.aload_n 0, 1) := by decide +kernel
theorem dX7_init_37 : decode cX7_init 37 = .ok (.bipush 14, 2) := by decide +kernel
theorem dX7_init_39 : decode cX7_init 39 = .ok (.newarray .int, 2) := by decide +kernel
theorem dX7_init_41 : decode cX7_init 41 = .ok (.putfield 22, 3) := by decide +kernel
theorem dX7_init_44 : decode cX7_init 44 = .ok (.aload_n 0, 1) := by decide +kernel
theorem dX7_init_45 : decode cX7_init 45 = .ok (.sipush 1414, 3) := by decide +kernel
theorem dX7_init_48 : decode cX7_init 48 = .ok (.newarray .int, 2) := by decide +kernel
theorem dX7_init_50 : decode cX7_init 50 = .ok (.putfield 25, 3) := by decide +kernel
theorem dX7_init_53 : decode cX7_init 53 = .ok (.aload_n 0, 1) := by decide +kernel
theorem dX7_init_54 : decode cX7_init 54 = .ok (.bipush 8, 2) := by decide +kernel
theorem dX7_init_56 : decode cX7_init 56 = .ok (.newarray .int, 2) := by decide +kernel
theorem dX7_init_58 : decode cX7_init 58 = .ok (.putfield 28, 3) := by decide +kernel
theorem dX7_init_61 : decode cX7_init 61 = .ok (.aload_n 0, 1) := by decide +kernel
theorem dX7_init_62 : decode cX7_init 62 = .ok (.bipush 8, 2) := by decide +kernel
theorem dX7_init_64 : decode cX7_init 64 = .ok (.newarray .int, 2) := by decide +kernel
theorem dX7_init_66 : decode cX7_init 66 = .ok (.putfield 31, 3) := by decide +kernel
theorem dX7_init_69 : decode cX7_init 69 = .ok (.aload_n 0, 1) := by decide +kernel
theorem dX7_init_70 : decode cX7_init 70 = .ok (.bipush 8, 2) := by decide +kernel
theorem dX7_init_72 : decode cX7_init 72 = .ok (.newarray .int, 2) := by decide +kernel
theorem dX7_init_74 : decode cX7_init 74 = .ok (.putfield 34, 3) := by decide +kernel
theorem dX7_init_77 : decode cX7_init 77 = .ok (.aload_n 0, 1) := by decide +kernel
theorem dX7_init_78 : decode cX7_init 78 = .ok (.bipush 8, 2) := by decide +kernel
theorem dX7_init_80 : decode cX7_init 80 = .ok (.newarray .int, 2) := by decide +kernel
theorem dX7_init_82 : decode cX7_init 82 = .ok (.putfield 37, 3) := by decide +kernel
theorem dX7_init_85 : decode cX7_init 85 = .ok (.aload_n 0, 1) := by decide +kernel
theorem dX7_init_86 : decode cX7_init 86 = .ok (.bipush 8, 2) := by decide +kernel
theorem dX7_init_88 : decode cX7_init 88 = .ok (.newarray .int, 2) := by decide +kernel
theorem dX7_init_90 : decode cX7_init 90 = .ok (.putfield 40, 3) := by decide +kernel
theorem dX7_init_93 : decode cX7_init 93 = .ok (.aload_n 0, 1) := by decide +kernel
theorem dX7_init_94 : decode cX7_init 94 = .ok (.bipush 8, 2) := by decide +kernel
theorem dX7_init_96 : decode cX7_init 96 = .ok (.newarray .int, 2) := by decide +kernel
theorem dX7_init_98 : decode cX7_init 98 = .ok (.putfield 43, 3) := by decide +kernel
theorem dX7_init_101 : decode cX7_init 101 = .ok (.aload_n 0, 1) := by decide +kernel
theorem dX7_init_102 : decode cX7_init 102 = .ok (.bipush 8, 2) := by decide +kernel
theorem dX7_init_104 : decode cX7_init 104 = .ok (.newarray .int, 2) := by decide +kernel
theorem dX7_init_106 : decode cX7_init 106 = .ok (.putfield 46, 3) := by decide +kernel
theorem dX7_init_109 : decode cX7_init 109 = .ok (.aload_n 0, 1) := by decide +kernel
theorem dX7_init_110 : decode cX7_init 110 = .ok (.bipush 8, 2) := by decide +kernel
theorem dX7_init_112 : decode cX7_init 112 = .ok (.newarray .int, 2) := by decide +kernel
theorem dX7_init_114 : decode cX7_init 114 = .ok (.putfield 49, 3) := by decide +kernel
theorem dX7_init_117 : decode cX7_init 117 = .ok (.aload_n 0, 1) := by decide +kernel
theorem dX7_init_118 : decode cX7_init 118 = .ok (.bipush 8, 2) := by decide +kernel
theorem dX7_init_120 : decode cX7_init 120 = .ok (.newarray .int, 2) := by decide +kernel
theorem dX7_init_122 : decode cX7_init 122 = .ok (.putfield 52, 3) := by decide +kernel
theorem dX7_init_125 : decode cX7_init 125 = .ok (.aload_n 0, 1) := by decide +kernel
theorem dX7_init_126 : decode cX7_init 126 = .ok (.bipush 8, 2) := by decide +kernel
theorem dX7_init_128 : decode cX7_init 128 = .ok (.newarray .int, 2) := by decide +kernel
theorem dX7_init_130 : decode cX7_init 130 = .ok (.putfield 55, 3) := by decide +kernel
theorem dX7_init_133 : decode cX7_init 133 = .ok (.aload_n 0, 1) := by decide +kernel
theorem dX7_init_134 : decode cX7_init 134 = .ok (.bipush 60, 2) := by decide +kernel
theorem dX7_init_136 : decode cX7_init 136 = .ok (.newarray .char, 2) := by decide +kernel
theorem dX7_init_138 : decode cX7_init 138 = .ok (.putfield 58, 3) := by decide +kernel
theorem dX7_init_141 : decode cX7_init 141 = .ok (.aload_n 0, 1) := by decide +kernel
theorem dX7_init_142 : decode cX7_init 142 = .ok (.bipush 20, 2) := by decide +kernel
theorem dX7_init_144 : decode cX7_init 144 = .ok (.newarray .char, 2) := by decide +kernel
theorem dX7_init_146 : decode cX7_init 146 = .ok (.putfield 62, 3) := by decide +kernel
theorem dX7_init_149 : decode cX7_init 149 = .ok (.aload_n 0, 1) := by decide +kernel
theorem dX7_init_150 : decode cX7_init 150 = .ok (.bipush 80, 2) := by decide +kernel
theorem dX7_init_152 : decode cX7_init 152 = .ok (.newarray .int, 2) := by decide +kernel
theorem dX7_init_154 : decode cX7_init 154 = .ok (.putfield 65, 3) := by decide +kernel
theorem dX7_init_157 : decode cX7_init 157 = .ok (.aload_n 0, 1) := by decide +kernel
theorem dX7_init_158 : decode cX7_init 158 = .ok (.iconst (-1), 1) := by decide +kernel
theorem dX7_init_159 : decode cX7_init 159 = .ok (.putfield 68, 3) := by decide +kernel
theorem dX7_init_162 : decode cX7_init 162 = .ok (.aload_n 0, 1) := by decide +kernel
theorem dX7_init_163 : decode cX7_init 163 = .ok (.sipush 9414, 3) := by decide +kernel
theorem dX7_init_166 : decode cX7_init 166 = .ok (.newarray .int, 2) := by decide +kernel
theorem dX7_init_168 : decode cX7_init 168 = .ok (.putfield 72, 3) := by decide +kernel
theorem dX7_init_171 : decode cX7_init 171 = .ok (.aload_n 0, 1) := by decide +kernel
theorem dX7_init_172 : decode cX7_init 172 = .ok (.sipush 1569, 3) := by decide +kernel
theorem dX7_init_175 : decode cX7_init 175 = .ok (.newarray .int, 2) := by decide +kernel
theorem dX7_init_177 : decode cX7_init 177 = .ok (.putfield 75, 3) := by decide +kernel
theorem dX7_init_180 : decode cX7_init 180 = .ok (.aload_n 0, 1) := by decide +kernel
theorem dX7_init_181 : decode cX7_init 181 = .ok (.sipush 1569, 3) := by decide +kernel
theorem dX7_init_184 : decode cX7_init 184 = .ok (.newarray .int, 2) := by decide +kernel
theorem dX7_init_186 : decode cX7_init 186 = .ok (.putfield 78, 3) := by decide +kernel
theorem dX7_init_189 : decode cX7_init 189 = .ok (.return_, 1) := by decide +kernel
theorem dX7_thrown_0 : decode cX7_thrown 0 = .ok (.aload_n 0, 1) := by decide +kernel
theorem dX7_thrown_1 : decode cX7_thrown 1 = .ok (.getfield 81, 3) := by decide +kernel
theorem dX7_thrown_4 : decode cX7_thrown 4 = .ok (.ireturn, 1) := by decide +kernel
theorem dX7_fails_0 : decode cX7_fails 0 = .ok (.aload_n 0, 1) := by decide +kernel
theorem dX7_fails_1 : decode cX7_fails 1 = .ok (.iload_n 1, 1) := by decide +kernel
theorem dX7_fails_2 : decode cX7_fails 2 = .ok (.putfield 81, 3) := by decide +kernel
theorem dX7_fails_5 : decode cX7_fails 5 = .ok (.iconst 0, 1) := by decide +kernel
theorem dX7_fails_6 : decode cX7_fails 6 = .ok (.ireturn, 1) := by decide +kernel
theorem dX7_refuses_0 : decode cX7_refuses 0 = .ok (.aload_n 0, 1) := by decide +kernel
theorem dX7_refuses_1 : decode cX7_refuses 1 = .ok (.iload_n 1, 1) := by decide +kernel
theorem dX7_refuses_2 : decode cX7_refuses 2 = .ok (.putfield 81, 3) := by decide +kernel
theorem dX7_refuses_5 : decode cX7_refuses 5 = .ok (.iconst 0, 1) := by decide +kernel
theorem dX7_refuses_6 : decode cX7_refuses 6 = .ok (.ireturn, 1) := by decide +kernel
theorem dX7_isBetween_0 : decode cX7_isBetween 0 = .ok (.iload_n 0, 1) := by decide +kernel
theorem dX7_isBetween_1 : decode cX7_isBetween 1 = .ok (.iload_n 1, 1) := by decide +kernel
theorem dX7_isBetween_2 : decode cX7_isBetween 2 = .ok (.if_icmp .lt 12, 3) := by decide +kernel
theorem dX7_isBetween_5 : decode cX7_isBetween 5 = .ok (.iload_n 0, 1) := by decide +kernel
theorem dX7_isBetween_6 : decode cX7_isBetween 6 = .ok (.iload_n 2, 1) := by decide +kernel
theorem dX7_isBetween_7 : decode cX7_isBetween 7 = .ok (.if_icmp .gt 7, 3) := by decide +kernel
theorem dX7_isBetween_10 : decode cX7_isBetween 10 = .ok (.iconst 1, 1) := by decide +kernel
theorem dX7_isBetween_11 : decode cX7_isBetween 11 = .ok (.goto 4, 3) := by decide +kernel
theorem dX7_isBetween_14 : decode cX7_isBetween 14 = .ok (.iconst 0, 1) := by decide +kernel
theorem dX7_isBetween_15 : decode cX7_isBetween 15 = .ok (.ireturn, 1) := by decide +kernel
theorem dX7_bits_0 : decode cX7_bits 0 = .ok (.iconst 0, 1) := by decide +kernel
theorem dX7_bits_1 : decode cX7_bits 1 = .ok (.istore_n 1, 1) := by decide +kernel
theorem dX7_bits_2 : decode cX7_bits 2 = .ok (.iconst 0, 1) := by decide +kernel
theorem dX7_bits_3 : decode cX7_bits 3 = .ok (.istore_n 2, 1) := by decide +kernel
theorem dX7_bits_4 : decode cX7_bits 4 = .ok (.iload_n 2, 1) := by decide +kernel
theorem dX7_bits_5 : decode cX7_bits 5 = .ok (.bipush 20, 2) := by decide +kernel
theorem dX7_bits_7 : decode cX7_bits 7 = .ok (.if_icmp .ge 17, 3) := by decide +kernel
theorem dX7_bits_10 : decode cX7_bits 10 = .ok (.iload_n 1, 1) := by decide +kernel
theorem dX7_bits_11 : decode cX7_bits 11 = .ok (.iload_n 0, 1) := by decide +kernel
theorem dX7_bits_12 : decode cX7_bits 12 = .ok (.iload_n 2, 1) := by decide +kernel
theorem dX7_bits_13 : decode cX7_bits 13 = .ok (.ishr, 1) := by decide +kernel
theorem dX7_bits_14 : decode cX7_bits 14 = .ok (.iconst 1, 1) := by decide +kernel
theorem dX7_bits_15 : decode cX7_bits 15 = .ok (.iand, 1) := by decide +kernel
theorem dX7_bits_16 : decode cX7_bits 16 = .ok (.iadd, 1) := by decide +kernel
theorem dX7_bits_17 : decode cX7_bits 17 = .ok (.istore_n 1, 1) := by decide +kernel
theorem dX7_bits_18 : decode cX7_bits 18 = .ok (.iinc 2 1, 3) := by decide +kernel
theorem dX7_bits_21 : decode cX7_bits 21 = .ok (.goto (-17), 3) := by decide +kernel
theorem dX7_bits_24 : decode cX7_bits 24 = .ok (.iload_n 1, 1) := by decide +kernel
theorem dX7_bits_25 : decode cX7_bits 25 = .ok (.ireturn, 1) := by decide +kernel
theorem dX7_isPerson_0 : decode cX7_isPerson 0 = .ok (.iload_n 1, 1) := by decide +kernel
theorem dX7_isPerson_1 : decode cX7_isPerson 1 = .ok (.ifCond .lt 15, 3) := by decide +kernel
theorem dX7_isPerson_4 : decode cX7_isPerson 4 = .ok (.iload_n 1, 1) := by decide +kernel
theorem dX7_isPerson_5 : decode cX7_isPerson 5 = .ok (.aload_n 0, 1) := by decide +kernel
theorem dX7_isPerson_6 : decode cX7_isPerson 6 = .ok (.getfield 84, 3) := by decide +kernel
theorem dX7_isPerson_9 : decode cX7_isPerson 9 = .ok (.if_icmp .ge 7, 3) := by decide +kernel
theorem dX7_isPerson_12 : decode cX7_isPerson 12 = .ok (.iconst 1, 1) := by decide +kernel
theorem dX7_isPerson_13 : decode cX7_isPerson 13 = .ok (.goto 4, 3) := by decide +kernel
theorem dX7_isPerson_16 : decode cX7_isPerson 16 = .ok (.iconst 0, 1) := by decide +kernel
theorem dX7_isPerson_17 : decode cX7_isPerson 17 = .ok (.ireturn, 1) := by decide +kernel
theorem dX7_isDay_0 : decode cX7_isDay 0 = .ok (.iload_n 0, 1) := by decide +kernel
theorem dX7_isDay_1 : decode cX7_isDay 1 = .ok (.iconst 0, 1) := by decide +kernel
theorem dX7_isDay_2 : decode cX7_isDay 2 = .ok (.sipush 400, 3) := by decide +kernel
theorem dX7_isDay_5 : decode cX7_isDay 5 = .ok (.invokestatic 87, 3) := by decide +kernel
theorem dX7_isDay_8 : decode cX7_isDay 8 = .ok (.ireturn, 1) := by decide +kernel
theorem dX7_busyOn_0 : decode cX7_busyOn 0 = .ok (.aload_n 0, 1) := by decide +kernel
theorem dX7_busyOn_1 : decode cX7_busyOn 1 = .ok (.getfield 25, 3) := by decide +kernel
theorem dX7_busyOn_4 : decode cX7_busyOn 4 = .ok (.bipush 101, 2) := by decide +kernel
theorem dX7_busyOn_6 : decode cX7_busyOn 6 = .ok (.iload_n 1, 1) := by decide +kernel
theorem dX7_busyOn_7 : decode cX7_busyOn 7 = .ok (.imul, 1) := by decide +kernel
theorem dX7_busyOn_8 : decode cX7_busyOn 8 = .ok (.iload_n 2, 1) := by decide +kernel
theorem dX7_busyOn_9 : decode cX7_busyOn 9 = .ok (.iconst 4, 1) := by decide +kernel
theorem dX7_busyOn_10 : decode cX7_busyOn 10 = .ok (.idiv, 1) := by decide +kernel
theorem dX7_busyOn_11 : decode cX7_busyOn 11 = .ok (.iadd, 1) := by decide +kernel
theorem dX7_busyOn_12 : decode cX7_busyOn 12 = .ok (.iaload, 1) := by decide +kernel
theorem dX7_busyOn_13 : decode cX7_busyOn 13 = .ok (.bipush 8, 2) := by decide +kernel
theorem dX7_busyOn_15 : decode cX7_busyOn 15 = .ok (.iload_n 2, 1) := by decide +kernel
theorem dX7_busyOn_16 : decode cX7_busyOn 16 = .ok (.iconst 4, 1) := by decide +kernel
theorem dX7_busyOn_17 : decode cX7_busyOn 17 = .ok (.irem, 1) := by decide +kernel
theorem dX7_busyOn_18 : decode cX7_busyOn 18 = .ok (.imul, 1) := by decide +kernel
theorem dX7_busyOn_19 : decode cX7_busyOn 19 = .ok (.ishr, 1) := by decide +kernel
theorem dX7_busyOn_20 : decode cX7_busyOn 20 = .ok (.sipush 255, 3) := by decide +kernel
theorem dX7_busyOn_23 : decode cX7_busyOn 23 = .ok (.iand, 1) := by decide +kernel
theorem dX7_busyOn_24 : decode cX7_busyOn 24 = .ok (.ireturn, 1) := by decide +kernel
theorem dX7_areApart_0 : decode cX7_areApart 0 = .ok (.aload_n 0, 1) := by decide +kernel
theorem dX7_areApart_1 : decode cX7_areApart 1 = .ok (.getfield 22, 3) := by decide +kernel
theorem dX7_areApart_4 : decode cX7_areApart 4 = .ok (.iload_n 1, 1) := by decide +kernel
theorem dX7_areApart_5 : decode cX7_areApart 5 = .ok (.iaload, 1) := by decide +kernel
theorem dX7_areApart_6 : decode cX7_areApart 6 = .ok (.iload_n 2, 1) := by decide +kernel
theorem dX7_areApart_7 : decode cX7_areApart 7 = .ok (.ishr, 1) := by decide +kernel
theorem dX7_areApart_8 : decode cX7_areApart 8 = .ok (.iconst 1, 1) := by decide +kernel
theorem dX7_areApart_9 : decode cX7_areApart 9 = .ok (.iand, 1) := by decide +kernel
theorem dX7_areApart_10 : decode cX7_areApart 10 = .ok (.ifCond .ne 7, 3) := by decide +kernel
theorem dX7_areApart_13 : decode cX7_areApart 13 = .ok (.iconst 1, 1) := by decide +kernel
theorem dX7_areApart_14 : decode cX7_areApart 14 = .ok (.goto 4, 3) := by decide +kernel
theorem dX7_areApart_17 : decode cX7_areApart 17 = .ok (.iconst 0, 1) := by decide +kernel
theorem dX7_areApart_18 : decode cX7_areApart 18 = .ok (.ireturn, 1) := by decide +kernel
theorem dX7_isThesis_0 : decode cX7_isThesis 0 = .ok (.iload_n 1, 1) := by decide +kernel
theorem dX7_isThesis_1 : decode cX7_isThesis 1 = .ok (.ifCond .lt 15, 3) := by decide +kernel
theorem dX7_isThesis_4 : decode cX7_isThesis 4 = .ok (.iload_n 1, 1) := by decide +kernel
theorem dX7_isThesis_5 : decode cX7_isThesis 5 = .ok (.aload_n 0, 1) := by decide +kernel
theorem dX7_isThesis_6 : decode cX7_isThesis 6 = .ok (.getfield 91, 3) := by decide +kernel
theorem dX7_isThesis_9 : decode cX7_isThesis 9 = .ok (.if_icmp .ge 7, 3) := by decide +kernel
theorem dX7_isThesis_12 : decode cX7_isThesis 12 = .ok (.iconst 1, 1) := by decide +kernel
theorem dX7_isThesis_13 : decode cX7_isThesis 13 = .ok (.goto 4, 3) := by decide +kernel
theorem dX7_isThesis_16 : decode cX7_isThesis 16 = .ok (.iconst 0, 1) := by decide +kernel
theorem dX7_isThesis_17 : decode cX7_isThesis 17 = .ok (.ireturn, 1) := by decide +kernel
theorem dX7_isMember_0 : decode cX7_isMember 0 = .ok (.aload_n 0, 1) := by decide +kernel
theorem dX7_isMember_1 : decode cX7_isMember 1 = .ok (.getfield 43, 3) := by decide +kernel
theorem dX7_isMember_4 : decode cX7_isMember 4 = .ok (.iload_n 1, 1) := by decide +kernel
theorem dX7_isMember_5 : decode cX7_isMember 5 = .ok (.iaload, 1) := by decide +kernel
theorem dX7_isMember_6 : decode cX7_isMember 6 = .ok (.iload_n 2, 1) := by decide +kernel
theorem dX7_isMember_7 : decode cX7_isMember 7 = .ok (.ishr, 1) := by decide +kernel
theorem dX7_isMember_8 : decode cX7_isMember 8 = .ok (.iconst 1, 1) := by decide +kernel
theorem dX7_isMember_9 : decode cX7_isMember 9 = .ok (.iand, 1) := by decide +kernel
theorem dX7_isMember_10 : decode cX7_isMember 10 = .ok (.iconst 1, 1) := by decide +kernel
theorem dX7_isMember_11 : decode cX7_isMember 11 = .ok (.if_icmp .ne 7, 3) := by decide +kernel
theorem dX7_isMember_14 : decode cX7_isMember 14 = .ok (.iconst 1, 1) := by decide +kernel
theorem dX7_isMember_15 : decode cX7_isMember 15 = .ok (.goto 4, 3) := by decide +kernel
theorem dX7_isMember_18 : decode cX7_isMember 18 = .ok (.iconst 0, 1) := by decide +kernel
theorem dX7_isMember_19 : decode cX7_isMember 19 = .ok (.ireturn, 1) := by decide +kernel
theorem dX7_isPlaced_0 : decode cX7_isPlaced 0 = .ok (.aload_n 0, 1) := by decide +kernel
theorem dX7_isPlaced_1 : decode cX7_isPlaced 1 = .ok (.getfield 46, 3) := by decide +kernel
theorem dX7_isPlaced_4 : decode cX7_isPlaced 4 = .ok (.iload_n 1, 1) := by decide +kernel
theorem dX7_isPlaced_5 : decode cX7_isPlaced 5 = .ok (.iaload, 1) := by decide +kernel
theorem dX7_isPlaced_6 : decode cX7_isPlaced 6 = .ok (.ifCond .lt 7, 3) := by decide +kernel
theorem dX7_isPlaced_9 : decode cX7_isPlaced 9 = .ok (.iconst 1, 1) := by decide +kernel
theorem dX7_isPlaced_10 : decode cX7_isPlaced 10 = .ok (.goto 4, 3) := by decide +kernel
theorem dX7_isPlaced_13 : decode cX7_isPlaced 13 = .ok (.iconst 0, 1) := by decide +kernel
theorem dX7_isPlaced_14 : decode cX7_isPlaced 14 = .ok (.ireturn, 1) := by decide +kernel
theorem dX7_isDefended_0 : decode cX7_isDefended 0 = .ok (.aload_n 0, 1) := by decide +kernel
theorem dX7_isDefended_1 : decode cX7_isDefended 1 = .ok (.getfield 40, 3) := by decide +kernel
theorem dX7_isDefended_4 : decode cX7_isDefended 4 = .ok (.iload_n 1, 1) := by decide +kernel
theorem dX7_isDefended_5 : decode cX7_isDefended 5 = .ok (.iaload, 1) := by decide +kernel
theorem dX7_isDefended_6 : decode cX7_isDefended 6 = .ok (.iconst 4, 1) := by decide +kernel
theorem dX7_isDefended_7 : decode cX7_isDefended 7 = .ok (.if_icmp .ne 7, 3) := by decide +kernel
theorem dX7_isDefended_10 : decode cX7_isDefended 10 = .ok (.iconst 1, 1) := by decide +kernel
theorem dX7_isDefended_11 : decode cX7_isDefended 11 = .ok (.goto 4, 3) := by decide +kernel
theorem dX7_isDefended_14 : decode cX7_isDefended 14 = .ok (.iconst 0, 1) := by decide +kernel
theorem dX7_isDefended_15 : decode cX7_isDefended 15 = .ok (.ireturn, 1) := by decide +kernel
theorem dX7_needed_0 : decode cX7_needed 0 = .ok (.getstatic 94, 3) := by decide +kernel
theorem dX7_needed_3 : decode cX7_needed 3 = .ok (.iconst 5, 1) := by decide +kernel
theorem dX7_needed_4 : decode cX7_needed 4 = .ok (.aload_n 0, 1) := by decide +kernel
theorem dX7_needed_5 : decode cX7_needed 5 = .ok (.getfield 28, 3) := by decide +kernel
theorem dX7_needed_8 : decode cX7_needed 8 = .ok (.iload_n 1, 1) := by decide +kernel
theorem dX7_needed_9 : decode cX7_needed 9 = .ok (.iaload, 1) := by decide +kernel
theorem dX7_needed_10 : decode cX7_needed 10 = .ok (.imul, 1) := by decide +kernel
theorem dX7_needed_11 : decode cX7_needed 11 = .ok (.iload_n 2, 1) := by decide +kernel
theorem dX7_needed_12 : decode cX7_needed 12 = .ok (.iadd, 1) := by decide +kernel
theorem dX7_needed_13 : decode cX7_needed 13 = .ok (.iaload, 1) := by decide +kernel
theorem dX7_needed_14 : decode cX7_needed 14 = .ok (.ireturn, 1) := by decide +kernel
theorem dX7_most_0 : decode cX7_most 0 = .ok (.aload_n 0, 1) := by decide +kernel
theorem dX7_most_1 : decode cX7_most 1 = .ok (.iload_n 1, 1) := by decide +kernel
theorem dX7_most_2 : decode cX7_most 2 = .ok (.iconst 0, 1) := by decide +kernel
theorem dX7_most_3 : decode cX7_most 3 = .ok (.invokevirtual 97, 3) := by decide +kernel
theorem dX7_most_6 : decode cX7_most 6 = .ok (.iconst 2, 1) := by decide +kernel
theorem dX7_most_7 : decode cX7_most 7 = .ok (.iadd, 1) := by decide +kernel
theorem dX7_most_8 : decode cX7_most 8 = .ok (.ireturn, 1) := by decide +kernel
theorem dX7_has_0 : decode cX7_has 0 = .ok (.iconst 0, 1) := by decide +kernel
theorem dX7_has_1 : decode cX7_has 1 = .ok (.istore 4, 2) := by decide +kernel
theorem dX7_has_3 : decode cX7_has 3 = .ok (.iconst 0, 1) := by decide +kernel
theorem dX7_has_4 : decode cX7_has 4 = .ok (.istore 5, 2) := by decide +kernel
theorem dX7_has_6 : decode cX7_has 6 = .ok (.iload 5, 2) := by decide +kernel
theorem dX7_has_8 : decode cX7_has 8 = .ok (.aload_n 0, 1) := by decide +kernel
theorem dX7_has_9 : decode cX7_has 9 = .ok (.getfield 84, 3) := by decide +kernel
theorem dX7_has_12 : decode cX7_has 12 = .ok (.if_icmp .ge 124, 3) := by decide +kernel
theorem dX7_has_15 : decode cX7_has 15 = .ok (.iload_n 2, 1) := by decide +kernel
theorem dX7_has_16 : decode cX7_has 16 = .ok (.iload 5, 2) := by decide +kernel
theorem dX7_has_18 : decode cX7_has 18 = .ok (.ishr, 1) := by decide +kernel
theorem dX7_has_19 : decode cX7_has 19 = .ok (.iconst 1, 1) := by decide +kernel
theorem dX7_has_20 : decode cX7_has 20 = .ok (.iand, 1) := by decide +kernel
theorem dX7_has_21 : decode cX7_has 21 = .ok (.ifCond .ne 6, 3) := by decide +kernel
theorem dX7_has_24 : decode cX7_has 24 = .ok (.goto 106, 3) := by decide +kernel
theorem dX7_has_27 : decode cX7_has 27 = .ok (.iload_n 3, 1) := by decide +kernel
theorem dX7_has_28 : decode cX7_has 28 = .ok (.ifCond .eq 80, 3) := by decide +kernel
theorem dX7_has_31 : decode cX7_has 31 = .ok (.iload_n 3, 1) := by decide +kernel
theorem dX7_has_32 : decode cX7_has 32 = .ok (.iconst 1, 1) := by decide +kernel
theorem dX7_has_33 : decode cX7_has 33 = .ok (.if_icmp .ne 13, 3) := by decide +kernel
theorem dX7_has_36 : decode cX7_has 36 = .ok (.aload_n 0, 1) := by decide +kernel
theorem dX7_has_37 : decode cX7_has 37 = .ok (.getfield 7, 3) := by decide +kernel
theorem dX7_has_40 : decode cX7_has 40 = .ok (.iload 5, 2) := by decide +kernel
theorem dX7_has_42 : decode cX7_has 42 = .ok (.iaload, 1) := by decide +kernel
theorem dX7_has_43 : decode cX7_has 43 = .ok (.ifCond .eq 65, 3) := by decide +kernel
theorem dX7_has_46 : decode cX7_has 46 = .ok (.iload_n 3, 1) := by decide +kernel
theorem dX7_has_47 : decode cX7_has 47 = .ok (.iconst 2, 1) := by decide +kernel
theorem dX7_has_48 : decode cX7_has 48 = .ok (.if_icmp .ne 14, 3) := by decide +kernel
theorem dX7_has_51 : decode cX7_has 51 = .ok (.aload_n 0, 1) := by decide +kernel
theorem dX7_has_52 : decode cX7_has 52 = .ok (.getfield 7, 3) := by decide +kernel
theorem dX7_has_55 : decode cX7_has 55 = .ok (.iload 5, 2) := by decide +kernel
theorem dX7_has_57 : decode cX7_has 57 = .ok (.iaload, 1) := by decide +kernel
theorem dX7_has_58 : decode cX7_has 58 = .ok (.iconst 2, 1) := by decide +kernel
theorem dX7_has_59 : decode cX7_has 59 = .ok (.if_icmp .eq 49, 3) := by decide +kernel
theorem dX7_has_62 : decode cX7_has 62 = .ok (.iload_n 3, 1) := by decide +kernel
theorem dX7_has_63 : decode cX7_has 63 = .ok (.iconst 3, 1) := by decide +kernel
theorem dX7_has_64 : decode cX7_has 64 = .ok (.if_icmp .ne 23, 3) := by decide +kernel
theorem dX7_has_67 : decode cX7_has 67 = .ok (.aload_n 0, 1) := by decide +kernel
theorem dX7_has_68 : decode cX7_has 68 = .ok (.getfield 13, 3) := by decide +kernel
theorem dX7_has_71 : decode cX7_has 71 = .ok (.iload 5, 2) := by decide +kernel
theorem dX7_has_73 : decode cX7_has 73 = .ok (.iaload, 1) := by decide +kernel
theorem dX7_has_74 : decode cX7_has 74 = .ok (.aload_n 0, 1) := by decide +kernel
theorem dX7_has_75 : decode cX7_has 75 = .ok (.getfield 31, 3) := by decide +kernel
theorem dX7_has_78 : decode cX7_has 78 = .ok (.iload_n 1, 1) := by decide +kernel
theorem dX7_has_79 : decode cX7_has 79 = .ok (.iaload, 1) := by decide +kernel
theorem dX7_has_80 : decode cX7_has 80 = .ok (.ishr, 1) := by decide +kernel
theorem dX7_has_81 : decode cX7_has 81 = .ok (.iconst 1, 1) := by decide +kernel
theorem dX7_has_82 : decode cX7_has 82 = .ok (.iand, 1) := by decide +kernel
theorem dX7_has_83 : decode cX7_has 83 = .ok (.iconst 1, 1) := by decide +kernel
theorem dX7_has_84 : decode cX7_has 84 = .ok (.if_icmp .eq 24, 3) := by decide +kernel
theorem dX7_has_87 : decode cX7_has 87 = .ok (.iload_n 3, 1) := by decide +kernel
theorem dX7_has_88 : decode cX7_has 88 = .ok (.iconst 4, 1) := by decide +kernel
theorem dX7_has_89 : decode cX7_has 89 = .ok (.if_icmp .ne 23, 3) := by decide +kernel
theorem dX7_has_92 : decode cX7_has 92 = .ok (.aload_n 0, 1) := by decide +kernel
theorem dX7_has_93 : decode cX7_has 93 = .ok (.getfield 16, 3) := by decide +kernel
theorem dX7_has_96 : decode cX7_has 96 = .ok (.iload 5, 2) := by decide +kernel
theorem dX7_has_98 : decode cX7_has 98 = .ok (.iaload, 1) := by decide +kernel
theorem dX7_has_99 : decode cX7_has 99 = .ok (.aload_n 0, 1) := by decide +kernel
theorem dX7_has_100 : decode cX7_has 100 = .ok (.getfield 34, 3) := by decide +kernel
theorem dX7_has_103 : decode cX7_has 103 = .ok (.iload_n 1, 1) := by decide +kernel
theorem dX7_has_104 : decode cX7_has 104 = .ok (.iaload, 1) := by decide +kernel
theorem dX7_has_105 : decode cX7_has 105 = .ok (.if_icmp .eq 7, 3) := by decide +kernel
theorem dX7_has_108 : decode cX7_has 108 = .ok (.iconst 1, 1) := by decide +kernel
theorem dX7_has_109 : decode cX7_has 109 = .ok (.goto 4, 3) := by decide +kernel
theorem dX7_has_112 : decode cX7_has 112 = .ok (.iconst 0, 1) := by decide +kernel
theorem dX7_has_113 : decode cX7_has 113 = .ok (.istore 6, 2) := by decide +kernel
theorem dX7_has_115 : decode cX7_has 115 = .ok (.iload 4, 2) := by decide +kernel
theorem dX7_has_117 : decode cX7_has 117 = .ok (.iload 6, 2) := by decide +kernel
theorem dX7_has_119 : decode cX7_has 119 = .ok (.ifCond .eq 7, 3) := by decide +kernel
theorem dX7_has_122 : decode cX7_has 122 = .ok (.iconst 1, 1) := by decide +kernel
theorem dX7_has_123 : decode cX7_has 123 = .ok (.goto 4, 3) := by decide +kernel
theorem dX7_has_126 : decode cX7_has 126 = .ok (.iconst 0, 1) := by decide +kernel
theorem dX7_has_127 : decode cX7_has 127 = .ok (.iadd, 1) := by decide +kernel
theorem dX7_has_128 : decode cX7_has 128 = .ok (.istore 4, 2) := by decide +kernel
theorem dX7_has_130 : decode cX7_has 130 = .ok (.iinc 5 1, 3) := by decide +kernel
theorem dX7_has_133 : decode cX7_has 133 = .ok (.goto (-127), 3) := by decide +kernel
theorem dX7_has_136 : decode cX7_has 136 = .ok (.iload 4, 2) := by decide +kernel
theorem dX7_has_138 : decode cX7_has 138 = .ok (.ireturn, 1) := by decide +kernel
theorem dX7_holds_0 : decode cX7_holds 0 = .ok (.iconst 0, 1) := by decide +kernel
theorem dX7_holds_1 : decode cX7_holds 1 = .ok (.istore_n 3, 1) := by decide +kernel
theorem dX7_holds_2 : decode cX7_holds 2 = .ok (.iload_n 3, 1) := by decide +kernel
theorem dX7_holds_3 : decode cX7_holds 3 = .ok (.iconst 5, 1) := by decide +kernel
theorem dX7_holds_4 : decode cX7_holds 4 = .ok (.if_icmp .ge 27, 3) := by decide +kernel
theorem dX7_holds_7 : decode cX7_holds 7 = .ok (.aload_n 0, 1) := by decide +kernel
theorem dX7_holds_8 : decode cX7_holds 8 = .ok (.iload_n 1, 1) := by decide +kernel
theorem dX7_holds_9 : decode cX7_holds 9 = .ok (.iload_n 2, 1) := by decide +kernel
theorem dX7_holds_10 : decode cX7_holds 10 = .ok (.iload_n 3, 1) := by decide +kernel
theorem dX7_holds_11 : decode cX7_holds 11 = .ok (.invokevirtual 101, 3) := by decide +kernel
theorem dX7_holds_14 : decode cX7_holds 14 = .ok (.aload_n 0, 1) := by decide +kernel
theorem dX7_holds_15 : decode cX7_holds 15 = .ok (.iload_n 1, 1) := by decide +kernel
theorem dX7_holds_16 : decode cX7_holds 16 = .ok (.iload_n 3, 1) := by decide +kernel
theorem dX7_holds_17 : decode cX7_holds 17 = .ok (.invokevirtual 97, 3) := by decide +kernel
theorem dX7_holds_20 : decode cX7_holds 20 = .ok (.if_icmp .ge 5, 3) := by decide +kernel
theorem dX7_holds_23 : decode cX7_holds 23 = .ok (.iconst 0, 1) := by decide +kernel
theorem dX7_holds_24 : decode cX7_holds 24 = .ok (.ireturn, 1) := by decide +kernel
theorem dX7_holds_25 : decode cX7_holds 25 = .ok (.iinc 3 1, 3) := by decide +kernel
theorem dX7_holds_28 : decode cX7_holds 28 = .ok (.goto (-26), 3) := by decide +kernel
theorem dX7_holds_31 : decode cX7_holds 31 = .ok (.iconst 1, 1) := by decide +kernel
theorem dX7_holds_32 : decode cX7_holds 32 = .ok (.ireturn, 1) := by decide +kernel
theorem dX7_load_0 : decode cX7_load 0 = .ok (.iconst 0, 1) := by decide +kernel
theorem dX7_load_1 : decode cX7_load 1 = .ok (.istore_n 2, 1) := by decide +kernel
theorem dX7_load_2 : decode cX7_load 2 = .ok (.iconst 0, 1) := by decide +kernel
theorem dX7_load_3 : decode cX7_load 3 = .ok (.istore_n 3, 1) := by decide +kernel
theorem dX7_load_4 : decode cX7_load 4 = .ok (.iload_n 3, 1) := by decide +kernel
theorem dX7_load_5 : decode cX7_load 5 = .ok (.aload_n 0, 1) := by decide +kernel
theorem dX7_load_6 : decode cX7_load 6 = .ok (.getfield 91, 3) := by decide +kernel
theorem dX7_load_9 : decode cX7_load 9 = .ok (.if_icmp .ge 34, 3) := by decide +kernel
theorem dX7_load_12 : decode cX7_load 12 = .ok (.iload_n 2, 1) := by decide +kernel
theorem dX7_load_13 : decode cX7_load 13 = .ok (.aload_n 0, 1) := by decide +kernel
theorem dX7_load_14 : decode cX7_load 14 = .ok (.iload_n 3, 1) := by decide +kernel
theorem dX7_load_15 : decode cX7_load 15 = .ok (.iload_n 1, 1) := by decide +kernel
theorem dX7_load_16 : decode cX7_load 16 = .ok (.invokevirtual 105, 3) := by decide +kernel
theorem dX7_load_19 : decode cX7_load 19 = .ok (.ifCond .eq 15, 3) := by decide +kernel
theorem dX7_load_22 : decode cX7_load 22 = .ok (.aload_n 0, 1) := by decide +kernel
theorem dX7_load_23 : decode cX7_load 23 = .ok (.iload_n 3, 1) := by decide +kernel
theorem dX7_load_24 : decode cX7_load 24 = .ok (.invokevirtual 109, 3) := by decide +kernel
theorem dX7_load_27 : decode cX7_load 27 = .ok (.ifCond .ne 7, 3) := by decide +kernel
theorem dX7_load_30 : decode cX7_load 30 = .ok (.iconst 1, 1) := by decide +kernel
theorem dX7_load_31 : decode cX7_load 31 = .ok (.goto 4, 3) := by decide +kernel
theorem dX7_load_34 : decode cX7_load 34 = .ok (.iconst 0, 1) := by decide +kernel
theorem dX7_load_35 : decode cX7_load 35 = .ok (.iadd, 1) := by decide +kernel
theorem dX7_load_36 : decode cX7_load 36 = .ok (.istore_n 2, 1) := by decide +kernel
theorem dX7_load_37 : decode cX7_load 37 = .ok (.iinc 3 1, 3) := by decide +kernel
theorem dX7_load_40 : decode cX7_load 40 = .ok (.goto (-36), 3) := by decide +kernel
theorem dX7_load_43 : decode cX7_load 43 = .ok (.iload_n 2, 1) := by decide +kernel
theorem dX7_load_44 : decode cX7_load 44 = .ok (.ireturn, 1) := by decide +kernel
theorem dX7_overlaps_0 : decode cX7_overlaps 0 = .ok (.aload_n 0, 1) := by decide +kernel
theorem dX7_overlaps_1 : decode cX7_overlaps 1 = .ok (.iload_n 1, 1) := by decide +kernel
theorem dX7_overlaps_2 : decode cX7_overlaps 2 = .ok (.invokevirtual 113, 3) := by decide +kernel
theorem dX7_overlaps_5 : decode cX7_overlaps 5 = .ok (.ifCond .eq 41, 3) := by decide +kernel
theorem dX7_overlaps_8 : decode cX7_overlaps 8 = .ok (.aload_n 0, 1) := by decide +kernel
theorem dX7_overlaps_9 : decode cX7_overlaps 9 = .ok (.getfield 49, 3) := by decide +kernel
theorem dX7_overlaps_12 : decode cX7_overlaps 12 = .ok (.iload_n 1, 1) := by decide +kernel
theorem dX7_overlaps_13 : decode cX7_overlaps 13 = .ok (.iaload, 1) := by decide +kernel
theorem dX7_overlaps_14 : decode cX7_overlaps 14 = .ok (.iload_n 2, 1) := by decide +kernel
theorem dX7_overlaps_15 : decode cX7_overlaps 15 = .ok (.if_icmp .ne 31, 3) := by decide +kernel
theorem dX7_overlaps_18 : decode cX7_overlaps 18 = .ok (.aload_n 0, 1) := by decide +kernel
theorem dX7_overlaps_19 : decode cX7_overlaps 19 = .ok (.getfield 52, 3) := by decide +kernel
theorem dX7_overlaps_22 : decode cX7_overlaps 22 = .ok (.iload_n 1, 1) := by decide +kernel
theorem dX7_overlaps_23 : decode cX7_overlaps 23 = .ok (.iaload, 1) := by decide +kernel
theorem dX7_overlaps_24 : decode cX7_overlaps 24 = .ok (.iload_n 3, 1) := by decide +kernel
theorem dX7_overlaps_25 : decode cX7_overlaps 25 = .ok (.isub, 1) := by decide +kernel
theorem dX7_overlaps_26 : decode cX7_overlaps 26 = .ok (.iconst 1, 1) := by decide +kernel
theorem dX7_overlaps_27 : decode cX7_overlaps 27 = .ok (.if_icmp .gt 19, 3) := by decide +kernel
theorem dX7_overlaps_30 : decode cX7_overlaps 30 = .ok (.iload_n 3, 1) := by decide +kernel
theorem dX7_overlaps_31 : decode cX7_overlaps 31 = .ok (.aload_n 0, 1) := by decide +kernel
theorem dX7_overlaps_32 : decode cX7_overlaps 32 = .ok (.getfield 52, 3) := by decide +kernel
theorem dX7_overlaps_35 : decode cX7_overlaps 35 = .ok (.iload_n 1, 1) := by decide +kernel
theorem dX7_overlaps_36 : decode cX7_overlaps 36 = .ok (.iaload, 1) := by decide +kernel
theorem dX7_overlaps_37 : decode cX7_overlaps 37 = .ok (.isub, 1) := by decide +kernel
theorem dX7_overlaps_38 : decode cX7_overlaps 38 = .ok (.iconst 1, 1) := by decide +kernel
theorem dX7_overlaps_39 : decode cX7_overlaps 39 = .ok (.if_icmp .gt 7, 3) := by decide +kernel
theorem dX7_overlaps_42 : decode cX7_overlaps 42 = .ok (.iconst 1, 1) := by decide +kernel
theorem dX7_overlaps_43 : decode cX7_overlaps 43 = .ok (.goto 4, 3) := by decide +kernel
theorem dX7_overlaps_46 : decode cX7_overlaps 46 = .ok (.iconst 0, 1) := by decide +kernel
theorem dX7_overlaps_47 : decode cX7_overlaps 47 = .ok (.ireturn, 1) := by decide +kernel
theorem dX7_isFreeBut_0 : decode cX7_isFreeBut 0 = .ok (.aload_n 0, 1) := by decide +kernel
theorem dX7_isFreeBut_1 : decode cX7_isFreeBut 1 = .ok (.iload_n 1, 1) := by decide +kernel
theorem dX7_isFreeBut_2 : decode cX7_isFreeBut 2 = .ok (.iload_n 2, 1) := by decide +kernel
theorem dX7_isFreeBut_3 : decode cX7_isFreeBut 3 = .ok (.invokevirtual 116, 3) := by decide +kernel
theorem dX7_isFreeBut_6 : decode cX7_isFreeBut 6 = .ok (.iload_n 3, 1) := by decide +kernel
theorem dX7_isFreeBut_7 : decode cX7_isFreeBut 7 = .ok (.ishr, 1) := by decide +kernel
theorem dX7_isFreeBut_8 : decode cX7_isFreeBut 8 = .ok (.iconst 3, 1) := by decide +kernel
theorem dX7_isFreeBut_9 : decode cX7_isFreeBut 9 = .ok (.iand, 1) := by decide +kernel
theorem dX7_isFreeBut_10 : decode cX7_isFreeBut 10 = .ok (.ifCond .eq 5, 3) := by decide +kernel
theorem dX7_isFreeBut_13 : decode cX7_isFreeBut 13 = .ok (.iconst 0, 1) := by decide +kernel
theorem dX7_isFreeBut_14 : decode cX7_isFreeBut 14 = .ok (.ireturn, 1) := by decide +kernel
theorem dX7_isFreeBut_15 : decode cX7_isFreeBut 15 = .ok (.iconst 0, 1) := by decide +kernel
theorem dX7_isFreeBut_16 : decode cX7_isFreeBut 16 = .ok (.istore 5, 2) := by decide +kernel
theorem dX7_isFreeBut_18 : decode cX7_isFreeBut 18 = .ok (.iload 5, 2) := by decide +kernel
theorem dX7_isFreeBut_20 : decode cX7_isFreeBut 20 = .ok (.aload_n 0, 1) := by decide +kernel
theorem dX7_isFreeBut_21 : decode cX7_isFreeBut 21 = .ok (.getfield 91, 3) := by decide +kernel
theorem dX7_isFreeBut_24 : decode cX7_isFreeBut 24 = .ok (.if_icmp .ge 39, 3) := by decide +kernel
theorem dX7_isFreeBut_27 : decode cX7_isFreeBut 27 = .ok (.iload 5, 2) := by decide +kernel
theorem dX7_isFreeBut_29 : decode cX7_isFreeBut 29 = .ok (.iload 4, 2) := by decide +kernel
theorem dX7_isFreeBut_31 : decode cX7_isFreeBut 31 = .ok (.if_icmp .eq 26, 3) := by decide +kernel
theorem dX7_isFreeBut_34 : decode cX7_isFreeBut 34 = .ok (.aload_n 0, 1) := by decide +kernel
theorem dX7_isFreeBut_35 : decode cX7_isFreeBut 35 = .ok (.iload 5, 2) := by decide +kernel
theorem dX7_isFreeBut_37 : decode cX7_isFreeBut 37 = .ok (.iload_n 1, 1) := by decide +kernel
theorem dX7_isFreeBut_38 : decode cX7_isFreeBut 38 = .ok (.invokevirtual 105, 3) := by decide +kernel
theorem dX7_isFreeBut_41 : decode cX7_isFreeBut 41 = .ok (.ifCond .eq 16, 3) := by decide +kernel
theorem dX7_isFreeBut_44 : decode cX7_isFreeBut 44 = .ok (.aload_n 0, 1) := by decide +kernel
theorem dX7_isFreeBut_45 : decode cX7_isFreeBut 45 = .ok (.iload 5, 2) := by decide +kernel
theorem dX7_isFreeBut_47 : decode cX7_isFreeBut 47 = .ok (.iload_n 2, 1) := by decide +kernel
theorem dX7_isFreeBut_48 : decode cX7_isFreeBut 48 = .ok (.iload_n 3, 1) := by decide +kernel
theorem dX7_isFreeBut_49 : decode cX7_isFreeBut 49 = .ok (.invokevirtual 119, 3) := by decide +kernel
theorem dX7_isFreeBut_52 : decode cX7_isFreeBut 52 = .ok (.ifCond .eq 5, 3) := by decide +kernel
theorem dX7_isFreeBut_55 : decode cX7_isFreeBut 55 = .ok (.iconst 0, 1) := by decide +kernel
theorem dX7_isFreeBut_56 : decode cX7_isFreeBut 56 = .ok (.ireturn, 1) := by decide +kernel
theorem dX7_isFreeBut_57 : decode cX7_isFreeBut 57 = .ok (.iinc 5 1, 3) := by decide +kernel
theorem dX7_isFreeBut_60 : decode cX7_isFreeBut 60 = .ok (.goto (-42), 3) := by decide +kernel
theorem dX7_isFreeBut_63 : decode cX7_isFreeBut 63 = .ok (.iconst 1, 1) := by decide +kernel
theorem dX7_isFreeBut_64 : decode cX7_isFreeBut 64 = .ok (.ireturn, 1) := by decide +kernel
theorem dX7_whyNot_0 : decode cX7_whyNot 0 = .ok (.iload_n 3, 1) := by decide +kernel
theorem dX7_whyNot_1 : decode cX7_whyNot 1 = .ok (.iload_n 2, 1) := by decide +kernel
theorem dX7_whyNot_2 : decode cX7_whyNot 2 = .ok (.ishr, 1) := by decide +kernel
theorem dX7_whyNot_3 : decode cX7_whyNot 3 = .ok (.iconst 1, 1) := by decide +kernel
theorem dX7_whyNot_4 : decode cX7_whyNot 4 = .ok (.iand, 1) := by decide +kernel
theorem dX7_whyNot_5 : decode cX7_whyNot 5 = .ok (.iconst 1, 1) := by decide +kernel
theorem dX7_whyNot_6 : decode cX7_whyNot 6 = .ok (.if_icmp .ne 5, 3) := by decide +kernel
theorem dX7_whyNot_9 : decode cX7_whyNot 9 = .ok (.iconst 1, 1) := by decide +kernel
theorem dX7_whyNot_10 : decode cX7_whyNot 10 = .ok (.ireturn, 1) := by decide +kernel
theorem dX7_whyNot_11 : decode cX7_whyNot 11 = .ok (.iload_n 2, 1) := by decide +kernel
theorem dX7_whyNot_12 : decode cX7_whyNot 12 = .ok (.aload_n 0, 1) := by decide +kernel
theorem dX7_whyNot_13 : decode cX7_whyNot 13 = .ok (.getfield 37, 3) := by decide +kernel
theorem dX7_whyNot_16 : decode cX7_whyNot 16 = .ok (.iload_n 1, 1) := by decide +kernel
theorem dX7_whyNot_17 : decode cX7_whyNot 17 = .ok (.iaload, 1) := by decide +kernel
theorem dX7_whyNot_18 : decode cX7_whyNot 18 = .ok (.if_icmp .ne 14, 3) := by decide +kernel
theorem dX7_whyNot_21 : decode cX7_whyNot 21 = .ok (.aload_n 0, 1) := by decide +kernel
theorem dX7_whyNot_22 : decode cX7_whyNot 22 = .ok (.getfield 28, 3) := by decide +kernel
theorem dX7_whyNot_25 : decode cX7_whyNot 25 = .ok (.iload_n 1, 1) := by decide +kernel
theorem dX7_whyNot_26 : decode cX7_whyNot 26 = .ok (.iaload, 1) := by decide +kernel
theorem dX7_whyNot_27 : decode cX7_whyNot 27 = .ok (.ifCond .eq 5, 3) := by decide +kernel
theorem dX7_whyNot_30 : decode cX7_whyNot 30 = .ok (.iconst 2, 1) := by decide +kernel
theorem dX7_whyNot_31 : decode cX7_whyNot 31 = .ok (.ireturn, 1) := by decide +kernel
theorem dX7_whyNot_32 : decode cX7_whyNot 32 = .ok (.aload_n 0, 1) := by decide +kernel
theorem dX7_whyNot_33 : decode cX7_whyNot 33 = .ok (.iload_n 2, 1) := by decide +kernel
theorem dX7_whyNot_34 : decode cX7_whyNot 34 = .ok (.aload_n 0, 1) := by decide +kernel
theorem dX7_whyNot_35 : decode cX7_whyNot 35 = .ok (.getfield 37, 3) := by decide +kernel
theorem dX7_whyNot_38 : decode cX7_whyNot 38 = .ok (.iload_n 1, 1) := by decide +kernel
theorem dX7_whyNot_39 : decode cX7_whyNot 39 = .ok (.iaload, 1) := by decide +kernel
theorem dX7_whyNot_40 : decode cX7_whyNot 40 = .ok (.invokevirtual 122, 3) := by decide +kernel
theorem dX7_whyNot_43 : decode cX7_whyNot 43 = .ok (.ifCond .ne 5, 3) := by decide +kernel
theorem dX7_whyNot_46 : decode cX7_whyNot 46 = .ok (.iconst 3, 1) := by decide +kernel
theorem dX7_whyNot_47 : decode cX7_whyNot 47 = .ok (.ireturn, 1) := by decide +kernel
theorem dX7_whyNot_48 : decode cX7_whyNot 48 = .ok (.aload_n 0, 1) := by decide +kernel
theorem dX7_whyNot_49 : decode cX7_whyNot 49 = .ok (.getfield 22, 3) := by decide +kernel
theorem dX7_whyNot_52 : decode cX7_whyNot 52 = .ok (.iload_n 2, 1) := by decide +kernel
theorem dX7_whyNot_53 : decode cX7_whyNot 53 = .ok (.iaload, 1) := by decide +kernel
theorem dX7_whyNot_54 : decode cX7_whyNot 54 = .ok (.iload_n 3, 1) := by decide +kernel
theorem dX7_whyNot_55 : decode cX7_whyNot 55 = .ok (.iand, 1) := by decide +kernel
theorem dX7_whyNot_56 : decode cX7_whyNot 56 = .ok (.ifCond .eq 5, 3) := by decide +kernel
theorem dX7_whyNot_59 : decode cX7_whyNot 59 = .ok (.iconst 4, 1) := by decide +kernel
theorem dX7_whyNot_60 : decode cX7_whyNot 60 = .ok (.ireturn, 1) := by decide +kernel
theorem dX7_whyNot_61 : decode cX7_whyNot 61 = .ok (.aload_n 0, 1) := by decide +kernel
theorem dX7_whyNot_62 : decode cX7_whyNot 62 = .ok (.iload_n 2, 1) := by decide +kernel
theorem dX7_whyNot_63 : decode cX7_whyNot 63 = .ok (.invokevirtual 125, 3) := by decide +kernel
theorem dX7_whyNot_66 : decode cX7_whyNot 66 = .ok (.aload_n 0, 1) := by decide +kernel
theorem dX7_whyNot_67 : decode cX7_whyNot 67 = .ok (.iload_n 1, 1) := by decide +kernel
theorem dX7_whyNot_68 : decode cX7_whyNot 68 = .ok (.iload_n 2, 1) := by decide +kernel
theorem dX7_whyNot_69 : decode cX7_whyNot 69 = .ok (.invokevirtual 105, 3) := by decide +kernel
theorem dX7_whyNot_72 : decode cX7_whyNot 72 = .ok (.ifCond .eq 15, 3) := by decide +kernel
theorem dX7_whyNot_75 : decode cX7_whyNot 75 = .ok (.aload_n 0, 1) := by decide +kernel
theorem dX7_whyNot_76 : decode cX7_whyNot 76 = .ok (.iload_n 1, 1) := by decide +kernel
theorem dX7_whyNot_77 : decode cX7_whyNot 77 = .ok (.invokevirtual 109, 3) := by decide +kernel
theorem dX7_whyNot_80 : decode cX7_whyNot 80 = .ok (.ifCond .ne 7, 3) := by decide +kernel
theorem dX7_whyNot_83 : decode cX7_whyNot 83 = .ok (.iconst 1, 1) := by decide +kernel
theorem dX7_whyNot_84 : decode cX7_whyNot 84 = .ok (.goto 4, 3) := by decide +kernel
theorem dX7_whyNot_87 : decode cX7_whyNot 87 = .ok (.iconst 0, 1) := by decide +kernel
theorem dX7_whyNot_88 : decode cX7_whyNot 88 = .ok (.isub, 1) := by decide +kernel
theorem dX7_whyNot_89 : decode cX7_whyNot 89 = .ok (.aload_n 0, 1) := by decide +kernel
theorem dX7_whyNot_90 : decode cX7_whyNot 90 = .ok (.getfield 19, 3) := by decide +kernel
theorem dX7_whyNot_93 : decode cX7_whyNot 93 = .ok (.iload_n 2, 1) := by decide +kernel
theorem dX7_whyNot_94 : decode cX7_whyNot 94 = .ok (.iaload, 1) := by decide +kernel
theorem dX7_whyNot_95 : decode cX7_whyNot 95 = .ok (.if_icmp .lt 5, 3) := by decide +kernel
theorem dX7_whyNot_98 : decode cX7_whyNot 98 = .ok (.iconst 5, 1) := by decide +kernel
theorem dX7_whyNot_99 : decode cX7_whyNot 99 = .ok (.ireturn, 1) := by decide +kernel
theorem dX7_whyNot_100 : decode cX7_whyNot 100 = .ok (.iload_n 3, 1) := by decide +kernel
theorem dX7_whyNot_101 : decode cX7_whyNot 101 = .ok (.invokestatic 129, 3) := by decide +kernel
theorem dX7_whyNot_104 : decode cX7_whyNot 104 = .ok (.aload_n 0, 1) := by decide +kernel
theorem dX7_whyNot_105 : decode cX7_whyNot 105 = .ok (.iload_n 1, 1) := by decide +kernel
theorem dX7_whyNot_106 : decode cX7_whyNot 106 = .ok (.invokevirtual 132, 3) := by decide +kernel
theorem dX7_whyNot_109 : decode cX7_whyNot 109 = .ok (.if_icmp .lt 6, 3) := by decide +kernel
theorem dX7_whyNot_112 : decode cX7_whyNot 112 = .ok (.bipush 6, 2) := by decide +kernel
theorem dX7_whyNot_114 : decode cX7_whyNot 114 = .ok (.ireturn, 1) := by decide +kernel
theorem dX7_whyNot_115 : decode cX7_whyNot 115 = .ok (.aload_n 0, 1) := by decide +kernel
theorem dX7_whyNot_116 : decode cX7_whyNot 116 = .ok (.iload_n 1, 1) := by decide +kernel
theorem dX7_whyNot_117 : decode cX7_whyNot 117 = .ok (.invokevirtual 113, 3) := by decide +kernel
theorem dX7_whyNot_120 : decode cX7_whyNot 120 = .ok (.ifCond .eq 27, 3) := by decide +kernel
theorem dX7_whyNot_123 : decode cX7_whyNot 123 = .ok (.aload_n 0, 1) := by decide +kernel
theorem dX7_whyNot_124 : decode cX7_whyNot 124 = .ok (.iload_n 2, 1) := by decide +kernel
theorem dX7_whyNot_125 : decode cX7_whyNot 125 = .ok (.aload_n 0, 1) := by decide +kernel
theorem dX7_whyNot_126 : decode cX7_whyNot 126 = .ok (.getfield 49, 3) := by decide +kernel
theorem dX7_whyNot_129 : decode cX7_whyNot 129 = .ok (.iload_n 1, 1) := by decide +kernel
theorem dX7_whyNot_130 : decode cX7_whyNot 130 = .ok (.iaload, 1) := by decide +kernel
theorem dX7_whyNot_131 : decode cX7_whyNot 131 = .ok (.aload_n 0, 1) := by decide +kernel
theorem dX7_whyNot_132 : decode cX7_whyNot 132 = .ok (.getfield 52, 3) := by decide +kernel
theorem dX7_whyNot_135 : decode cX7_whyNot 135 = .ok (.iload_n 1, 1) := by decide +kernel
theorem dX7_whyNot_136 : decode cX7_whyNot 136 = .ok (.iaload, 1) := by decide +kernel
theorem dX7_whyNot_137 : decode cX7_whyNot 137 = .ok (.iload_n 1, 1) := by decide +kernel
theorem dX7_whyNot_138 : decode cX7_whyNot 138 = .ok (.invokevirtual 135, 3) := by decide +kernel
theorem dX7_whyNot_141 : decode cX7_whyNot 141 = .ok (.ifCond .ne 6, 3) := by decide +kernel
theorem dX7_whyNot_144 : decode cX7_whyNot 144 = .ok (.bipush 7, 2) := by decide +kernel
theorem dX7_whyNot_146 : decode cX7_whyNot 146 = .ok (.ireturn, 1) := by decide +kernel
theorem dX7_whyNot_147 : decode cX7_whyNot 147 = .ok (.aload_n 0, 1) := by decide +kernel
theorem dX7_whyNot_148 : decode cX7_whyNot 148 = .ok (.iload_n 1, 1) := by decide +kernel
theorem dX7_whyNot_149 : decode cX7_whyNot 149 = .ok (.invokevirtual 109, 3) := by decide +kernel
theorem dX7_whyNot_152 : decode cX7_whyNot 152 = .ok (.ifCond .eq 8, 3) := by decide +kernel
theorem dX7_whyNot_155 : decode cX7_whyNot 155 = .ok (.bipush 8, 2) := by decide +kernel
theorem dX7_whyNot_157 : decode cX7_whyNot 157 = .ok (.goto 4, 3) := by decide +kernel
theorem dX7_whyNot_160 : decode cX7_whyNot 160 = .ok (.iconst 0, 1) := by decide +kernel
theorem dX7_whyNot_161 : decode cX7_whyNot 161 = .ok (.ireturn, 1) := by decide +kernel
theorem dX7_loses_0 : decode cX7_loses 0 = .ok (.aload_n 0, 1) := by decide +kernel
theorem dX7_loses_1 : decode cX7_loses 1 = .ok (.getfield 46, 3) := by decide +kernel
theorem dX7_loses_4 : decode cX7_loses 4 = .ok (.iload_n 1, 1) := by decide +kernel
theorem dX7_loses_5 : decode cX7_loses 5 = .ok (.iconst (-1), 1) := by decide +kernel
theorem dX7_loses_6 : decode cX7_loses 6 = .ok (.iastore, 1) := by decide +kernel
theorem dX7_loses_7 : decode cX7_loses 7 = .ok (.aload_n 0, 1) := by decide +kernel
theorem dX7_loses_8 : decode cX7_loses 8 = .ok (.getfield 49, 3) := by decide +kernel
theorem dX7_loses_11 : decode cX7_loses 11 = .ok (.iload_n 1, 1) := by decide +kernel
theorem dX7_loses_12 : decode cX7_loses 12 = .ok (.iconst (-1), 1) := by decide +kernel
theorem dX7_loses_13 : decode cX7_loses 13 = .ok (.iastore, 1) := by decide +kernel
theorem dX7_loses_14 : decode cX7_loses 14 = .ok (.aload_n 0, 1) := by decide +kernel
theorem dX7_loses_15 : decode cX7_loses 15 = .ok (.getfield 52, 3) := by decide +kernel
theorem dX7_loses_18 : decode cX7_loses 18 = .ok (.iload_n 1, 1) := by decide +kernel
theorem dX7_loses_19 : decode cX7_loses 19 = .ok (.iconst (-1), 1) := by decide +kernel
theorem dX7_loses_20 : decode cX7_loses 20 = .ok (.iastore, 1) := by decide +kernel
theorem dX7_loses_21 : decode cX7_loses 21 = .ok (.return_, 1) := by decide +kernel
theorem dX7_keepsQuorum_0 : decode cX7_keepsQuorum 0 = .ok (.aload_n 0, 1) := by decide +kernel
theorem dX7_keepsQuorum_1 : decode cX7_keepsQuorum 1 = .ok (.iload_n 1, 1) := by decide +kernel
theorem dX7_keepsQuorum_2 : decode cX7_keepsQuorum 2 = .ok (.invokevirtual 113, 3) := by decide +kernel
theorem dX7_keepsQuorum_5 : decode cX7_keepsQuorum 5 = .ok (.ifCond .eq 22, 3) := by decide +kernel
theorem dX7_keepsQuorum_8 : decode cX7_keepsQuorum 8 = .ok (.aload_n 0, 1) := by decide +kernel
theorem dX7_keepsQuorum_9 : decode cX7_keepsQuorum 9 = .ok (.iload_n 1, 1) := by decide +kernel
theorem dX7_keepsQuorum_10 : decode cX7_keepsQuorum 10 = .ok (.aload_n 0, 1) := by decide +kernel
theorem dX7_keepsQuorum_11 : decode cX7_keepsQuorum 11 = .ok (.getfield 43, 3) := by decide +kernel
theorem dX7_keepsQuorum_14 : decode cX7_keepsQuorum 14 = .ok (.iload_n 1, 1) := by decide +kernel
theorem dX7_keepsQuorum_15 : decode cX7_keepsQuorum 15 = .ok (.iaload, 1) := by decide +kernel
theorem dX7_keepsQuorum_16 : decode cX7_keepsQuorum 16 = .ok (.invokevirtual 139, 3) := by decide +kernel
theorem dX7_keepsQuorum_19 : decode cX7_keepsQuorum 19 = .ok (.ifCond .ne 8, 3) := by decide +kernel
theorem dX7_keepsQuorum_22 : decode cX7_keepsQuorum 22 = .ok (.aload_n 0, 1) := by decide +kernel
theorem dX7_keepsQuorum_23 : decode cX7_keepsQuorum 23 = .ok (.iload_n 1, 1) := by decide +kernel
theorem dX7_keepsQuorum_24 : decode cX7_keepsQuorum 24 = .ok (.invokevirtual 142, 3) := by decide +kernel
theorem dX7_keepsQuorum_27 : decode cX7_keepsQuorum 27 = .ok (.return_, 1) := by decide +kernel
theorem dX7_deadlineFor_0 : decode cX7_deadlineFor 0 = .ok (.iload_n 3, 1) := by decide +kernel
theorem dX7_deadlineFor_1 : decode cX7_deadlineFor 1 = .ok (.iconst 4, 1) := by decide +kernel
theorem dX7_deadlineFor_2 : decode cX7_deadlineFor 2 = .ok (.if_icmp .ne 7, 3) := by decide +kernel
theorem dX7_deadlineFor_5 : decode cX7_deadlineFor 5 = .ok (.iload_n 2, 1) := by decide +kernel
theorem dX7_deadlineFor_6 : decode cX7_deadlineFor 6 = .ok (.goto 21, 3) := by decide +kernel
theorem dX7_deadlineFor_9 : decode cX7_deadlineFor 9 = .ok (.iload_n 2, 1) := by decide +kernel
theorem dX7_deadlineFor_10 : decode cX7_deadlineFor 10 = .ok (.getstatic 146, 3) := by decide +kernel
theorem dX7_deadlineFor_13 : decode cX7_deadlineFor 13 = .ok (.iconst 3, 1) := by decide +kernel
theorem dX7_deadlineFor_14 : decode cX7_deadlineFor 14 = .ok (.aload_n 0, 1) := by decide +kernel
theorem dX7_deadlineFor_15 : decode cX7_deadlineFor 15 = .ok (.getfield 28, 3) := by decide +kernel
theorem dX7_deadlineFor_18 : decode cX7_deadlineFor 18 = .ok (.iload_n 1, 1) := by decide +kernel
theorem dX7_deadlineFor_19 : decode cX7_deadlineFor 19 = .ok (.iaload, 1) := by decide +kernel
theorem dX7_deadlineFor_20 : decode cX7_deadlineFor 20 = .ok (.imul, 1) := by decide +kernel
theorem dX7_deadlineFor_21 : decode cX7_deadlineFor 21 = .ok (.iload_n 3, 1) := by decide +kernel
theorem dX7_deadlineFor_22 : decode cX7_deadlineFor 22 = .ok (.iadd, 1) := by decide +kernel
theorem dX7_deadlineFor_23 : decode cX7_deadlineFor 23 = .ok (.iconst 1, 1) := by decide +kernel
theorem dX7_deadlineFor_24 : decode cX7_deadlineFor 24 = .ok (.isub, 1) := by decide +kernel
theorem dX7_deadlineFor_25 : decode cX7_deadlineFor 25 = .ok (.iaload, 1) := by decide +kernel
theorem dX7_deadlineFor_26 : decode cX7_deadlineFor 26 = .ok (.isub, 1) := by decide +kernel
theorem dX7_deadlineFor_27 : decode cX7_deadlineFor 27 = .ok (.ireturn, 1) := by decide +kernel
theorem dX7_whyNotAt_0 : decode cX7_whyNotAt 0 = .ok (.aload_n 0, 1) := by decide +kernel
theorem dX7_whyNotAt_1 : decode cX7_whyNotAt 1 = .ok (.iload_n 1, 1) := by decide +kernel
theorem dX7_whyNotAt_2 : decode cX7_whyNotAt 2 = .ok (.invokevirtual 109, 3) := by decide +kernel
theorem dX7_whyNotAt_5 : decode cX7_whyNotAt 5 = .ok (.ifCond .eq 6, 3) := by decide +kernel
theorem dX7_whyNotAt_8 : decode cX7_whyNotAt 8 = .ok (.bipush 8, 2) := by decide +kernel
theorem dX7_whyNotAt_10 : decode cX7_whyNotAt 10 = .ok (.ireturn, 1) := by decide +kernel
theorem dX7_whyNotAt_11 : decode cX7_whyNotAt 11 = .ok (.aload_n 0, 1) := by decide +kernel
theorem dX7_whyNotAt_12 : decode cX7_whyNotAt 12 = .ok (.iload_n 1, 1) := by decide +kernel
theorem dX7_whyNotAt_13 : decode cX7_whyNotAt 13 = .ok (.aload_n 0, 1) := by decide +kernel
theorem dX7_whyNotAt_14 : decode cX7_whyNotAt 14 = .ok (.getfield 43, 3) := by decide +kernel
theorem dX7_whyNotAt_17 : decode cX7_whyNotAt 17 = .ok (.iload_n 1, 1) := by decide +kernel
theorem dX7_whyNotAt_18 : decode cX7_whyNotAt 18 = .ok (.iaload, 1) := by decide +kernel
theorem dX7_whyNotAt_19 : decode cX7_whyNotAt 19 = .ok (.invokevirtual 139, 3) := by decide +kernel
theorem dX7_whyNotAt_22 : decode cX7_whyNotAt 22 = .ok (.ifCond .ne 6, 3) := by decide +kernel
theorem dX7_whyNotAt_25 : decode cX7_whyNotAt 25 = .ok (.bipush 9, 2) := by decide +kernel
theorem dX7_whyNotAt_27 : decode cX7_whyNotAt 27 = .ok (.ireturn, 1) := by decide +kernel
theorem dX7_whyNotAt_28 : decode cX7_whyNotAt 28 = .ok (.iconst 0, 1) := by decide +kernel
theorem dX7_whyNotAt_29 : decode cX7_whyNotAt 29 = .ok (.istore 5, 2) := by decide +kernel
theorem dX7_whyNotAt_31 : decode cX7_whyNotAt 31 = .ok (.iload 5, 2) := by decide +kernel
theorem dX7_whyNotAt_33 : decode cX7_whyNotAt 33 = .ok (.aload_n 0, 1) := by decide +kernel
theorem dX7_whyNotAt_34 : decode cX7_whyNotAt 34 = .ok (.getfield 91, 3) := by decide +kernel
theorem dX7_whyNotAt_37 : decode cX7_whyNotAt 37 = .ok (.if_icmp .ge 41, 3) := by decide +kernel
theorem dX7_whyNotAt_40 : decode cX7_whyNotAt 40 = .ok (.iload 5, 2) := by decide +kernel
theorem dX7_whyNotAt_42 : decode cX7_whyNotAt 42 = .ok (.iload_n 1, 1) := by decide +kernel
theorem dX7_whyNotAt_43 : decode cX7_whyNotAt 43 = .ok (.if_icmp .eq 29, 3) := by decide +kernel
theorem dX7_whyNotAt_46 : decode cX7_whyNotAt 46 = .ok (.aload_n 0, 1) := by decide +kernel
theorem dX7_whyNotAt_47 : decode cX7_whyNotAt 47 = .ok (.getfield 46, 3) := by decide +kernel
theorem dX7_whyNotAt_50 : decode cX7_whyNotAt 50 = .ok (.iload 5, 2) := by decide +kernel
theorem dX7_whyNotAt_52 : decode cX7_whyNotAt 52 = .ok (.iaload, 1) := by decide +kernel
theorem dX7_whyNotAt_53 : decode cX7_whyNotAt 53 = .ok (.iload_n 2, 1) := by decide +kernel
theorem dX7_whyNotAt_54 : decode cX7_whyNotAt 54 = .ok (.if_icmp .ne 18, 3) := by decide +kernel
theorem dX7_whyNotAt_57 : decode cX7_whyNotAt 57 = .ok (.aload_n 0, 1) := by decide +kernel
theorem dX7_whyNotAt_58 : decode cX7_whyNotAt 58 = .ok (.iload 5, 2) := by decide +kernel
theorem dX7_whyNotAt_60 : decode cX7_whyNotAt 60 = .ok (.iload_n 3, 1) := by decide +kernel
theorem dX7_whyNotAt_61 : decode cX7_whyNotAt 61 = .ok (.iload 4, 2) := by decide +kernel
theorem dX7_whyNotAt_63 : decode cX7_whyNotAt 63 = .ok (.invokevirtual 119, 3) := by decide +kernel
theorem dX7_whyNotAt_66 : decode cX7_whyNotAt 66 = .ok (.ifCond .eq 6, 3) := by decide +kernel
theorem dX7_whyNotAt_69 : decode cX7_whyNotAt 69 = .ok (.bipush 10, 2) := by decide +kernel
theorem dX7_whyNotAt_71 : decode cX7_whyNotAt 71 = .ok (.ireturn, 1) := by decide +kernel
theorem dX7_whyNotAt_72 : decode cX7_whyNotAt 72 = .ok (.iinc 5 1, 3) := by decide +kernel
theorem dX7_whyNotAt_75 : decode cX7_whyNotAt 75 = .ok (.goto (-44), 3) := by decide +kernel
theorem dX7_whyNotAt_78 : decode cX7_whyNotAt 78 = .ok (.iconst 0, 1) := by decide +kernel
theorem dX7_whyNotAt_79 : decode cX7_whyNotAt 79 = .ok (.istore 5, 2) := by decide +kernel
theorem dX7_whyNotAt_81 : decode cX7_whyNotAt 81 = .ok (.iload 5, 2) := by decide +kernel
theorem dX7_whyNotAt_83 : decode cX7_whyNotAt 83 = .ok (.aload_n 0, 1) := by decide +kernel
theorem dX7_whyNotAt_84 : decode cX7_whyNotAt 84 = .ok (.getfield 84, 3) := by decide +kernel
theorem dX7_whyNotAt_87 : decode cX7_whyNotAt 87 = .ok (.if_icmp .ge 35, 3) := by decide +kernel
theorem dX7_whyNotAt_90 : decode cX7_whyNotAt 90 = .ok (.aload_n 0, 1) := by decide +kernel
theorem dX7_whyNotAt_91 : decode cX7_whyNotAt 91 = .ok (.iload_n 1, 1) := by decide +kernel
theorem dX7_whyNotAt_92 : decode cX7_whyNotAt 92 = .ok (.iload 5, 2) := by decide +kernel
theorem dX7_whyNotAt_94 : decode cX7_whyNotAt 94 = .ok (.invokevirtual 105, 3) := by decide +kernel
theorem dX7_whyNotAt_97 : decode cX7_whyNotAt 97 = .ok (.ifCond .eq 19, 3) := by decide +kernel
theorem dX7_whyNotAt_100 : decode cX7_whyNotAt 100 = .ok (.aload_n 0, 1) := by decide +kernel
theorem dX7_whyNotAt_101 : decode cX7_whyNotAt 101 = .ok (.iload 5, 2) := by decide +kernel
theorem dX7_whyNotAt_103 : decode cX7_whyNotAt 103 = .ok (.iload_n 3, 1) := by decide +kernel
theorem dX7_whyNotAt_104 : decode cX7_whyNotAt 104 = .ok (.iload 4, 2) := by decide +kernel
theorem dX7_whyNotAt_106 : decode cX7_whyNotAt 106 = .ok (.iload_n 1, 1) := by decide +kernel
theorem dX7_whyNotAt_107 : decode cX7_whyNotAt 107 = .ok (.invokevirtual 135, 3) := by decide +kernel
theorem dX7_whyNotAt_110 : decode cX7_whyNotAt 110 = .ok (.ifCond .ne 6, 3) := by decide +kernel
theorem dX7_whyNotAt_113 : decode cX7_whyNotAt 113 = .ok (.bipush 11, 2) := by decide +kernel
theorem dX7_whyNotAt_115 : decode cX7_whyNotAt 115 = .ok (.ireturn, 1) := by decide +kernel
theorem dX7_whyNotAt_116 : decode cX7_whyNotAt 116 = .ok (.iinc 5 1, 3) := by decide +kernel
theorem dX7_whyNotAt_119 : decode cX7_whyNotAt 119 = .ok (.goto (-38), 3) := by decide +kernel
theorem dX7_whyNotAt_122 : decode cX7_whyNotAt 122 = .ok (.aload_n 0, 1) := by decide +kernel
theorem dX7_whyNotAt_123 : decode cX7_whyNotAt 123 = .ok (.iload_n 1, 1) := by decide +kernel
theorem dX7_whyNotAt_124 : decode cX7_whyNotAt 124 = .ok (.iload_n 3, 1) := by decide +kernel
theorem dX7_whyNotAt_125 : decode cX7_whyNotAt 125 = .ok (.aload_n 0, 1) := by decide +kernel
theorem dX7_whyNotAt_126 : decode cX7_whyNotAt 126 = .ok (.getfield 40, 3) := by decide +kernel
theorem dX7_whyNotAt_129 : decode cX7_whyNotAt 129 = .ok (.iload_n 1, 1) := by decide +kernel
theorem dX7_whyNotAt_130 : decode cX7_whyNotAt 130 = .ok (.iaload, 1) := by decide +kernel
theorem dX7_whyNotAt_131 : decode cX7_whyNotAt 131 = .ok (.iconst 1, 1) := by decide +kernel
theorem dX7_whyNotAt_132 : decode cX7_whyNotAt 132 = .ok (.iadd, 1) := by decide +kernel
theorem dX7_whyNotAt_133 : decode cX7_whyNotAt 133 = .ok (.invokevirtual 149, 3) := by decide +kernel
theorem dX7_whyNotAt_136 : decode cX7_whyNotAt 136 = .ok (.aload_n 0, 1) := by decide +kernel
theorem dX7_whyNotAt_137 : decode cX7_whyNotAt 137 = .ok (.getfield 152, 3) := by decide +kernel
theorem dX7_whyNotAt_140 : decode cX7_whyNotAt 140 = .ok (.if_icmp .ge 8, 3) := by decide +kernel
theorem dX7_whyNotAt_143 : decode cX7_whyNotAt 143 = .ok (.bipush 12, 2) := by decide +kernel
theorem dX7_whyNotAt_145 : decode cX7_whyNotAt 145 = .ok (.goto 4, 3) := by decide +kernel
theorem dX7_whyNotAt_148 : decode cX7_whyNotAt 148 = .ok (.iconst 0, 1) := by decide +kernel
theorem dX7_whyNotAt_149 : decode cX7_whyNotAt 149 = .ok (.ireturn, 1) := by decide +kernel
theorem dX7_puts_0 : decode cX7_puts 0 = .ok (.aload_n 0, 1) := by decide +kernel
theorem dX7_puts_1 : decode cX7_puts 1 = .ok (.getfield 46, 3) := by decide +kernel
theorem dX7_puts_4 : decode cX7_puts 4 = .ok (.iload_n 1, 1) := by decide +kernel
theorem dX7_puts_5 : decode cX7_puts 5 = .ok (.iload_n 2, 1) := by decide +kernel
theorem dX7_puts_6 : decode cX7_puts 6 = .ok (.iastore, 1) := by decide +kernel
theorem dX7_puts_7 : decode cX7_puts 7 = .ok (.aload_n 0, 1) := by decide +kernel
theorem dX7_puts_8 : decode cX7_puts 8 = .ok (.getfield 49, 3) := by decide +kernel
theorem dX7_puts_11 : decode cX7_puts 11 = .ok (.iload_n 1, 1) := by decide +kernel
theorem dX7_puts_12 : decode cX7_puts 12 = .ok (.iload_n 3, 1) := by decide +kernel
theorem dX7_puts_13 : decode cX7_puts 13 = .ok (.iastore, 1) := by decide +kernel
theorem dX7_puts_14 : decode cX7_puts 14 = .ok (.aload_n 0, 1) := by decide +kernel
theorem dX7_puts_15 : decode cX7_puts 15 = .ok (.getfield 52, 3) := by decide +kernel
theorem dX7_puts_18 : decode cX7_puts 18 = .ok (.iload_n 1, 1) := by decide +kernel
theorem dX7_puts_19 : decode cX7_puts 19 = .ok (.iload 4, 2) := by decide +kernel
theorem dX7_puts_21 : decode cX7_puts 21 = .ok (.iastore, 1) := by decide +kernel
theorem dX7_puts_22 : decode cX7_puts 22 = .ok (.return_, 1) := by decide +kernel
theorem dX7_earliestOf_0 : decode cX7_earliestOf 0 = .ok (.aload_n 0, 1) := by decide +kernel
theorem dX7_earliestOf_1 : decode cX7_earliestOf 1 = .ok (.iload_n 1, 1) := by decide +kernel
theorem dX7_earliestOf_2 : decode cX7_earliestOf 2 = .ok (.invokevirtual 109, 3) := by decide +kernel
theorem dX7_earliestOf_5 : decode cX7_earliestOf 5 = .ok (.ifCond .ne 17, 3) := by decide +kernel
theorem dX7_earliestOf_8 : decode cX7_earliestOf 8 = .ok (.aload_n 0, 1) := by decide +kernel
theorem dX7_earliestOf_9 : decode cX7_earliestOf 9 = .ok (.iload_n 1, 1) := by decide +kernel
theorem dX7_earliestOf_10 : decode cX7_earliestOf 10 = .ok (.aload_n 0, 1) := by decide +kernel
theorem dX7_earliestOf_11 : decode cX7_earliestOf 11 = .ok (.getfield 43, 3) := by decide +kernel
theorem dX7_earliestOf_14 : decode cX7_earliestOf 14 = .ok (.iload_n 1, 1) := by decide +kernel
theorem dX7_earliestOf_15 : decode cX7_earliestOf 15 = .ok (.iaload, 1) := by decide +kernel
theorem dX7_earliestOf_16 : decode cX7_earliestOf 16 = .ok (.invokevirtual 139, 3) := by decide +kernel
theorem dX7_earliestOf_19 : decode cX7_earliestOf 19 = .ok (.ifCond .ne 5, 3) := by decide +kernel
theorem dX7_earliestOf_22 : decode cX7_earliestOf 22 = .ok (.iconst (-1), 1) := by decide +kernel
theorem dX7_earliestOf_23 : decode cX7_earliestOf 23 = .ok (.ireturn, 1) := by decide +kernel
theorem dX7_earliestOf_24 : decode cX7_earliestOf 24 = .ok (.aload_n 0, 1) := by decide +kernel
theorem dX7_earliestOf_25 : decode cX7_earliestOf 25 = .ok (.getfield 152, 3) := by decide +kernel
theorem dX7_earliestOf_28 : decode cX7_earliestOf 28 = .ok (.istore_n 2, 1) := by decide +kernel
theorem dX7_earliestOf_29 : decode cX7_earliestOf 29 = .ok (.iload_n 2, 1) := by decide +kernel
theorem dX7_earliestOf_30 : decode cX7_earliestOf 30 = .ok (.sipush 400, 3) := by decide +kernel
theorem dX7_earliestOf_33 : decode cX7_earliestOf 33 = .ok (.if_icmp .gt 78, 3) := by decide +kernel
theorem dX7_earliestOf_36 : decode cX7_earliestOf 36 = .ok (.aload_n 0, 1) := by decide +kernel
theorem dX7_earliestOf_37 : decode cX7_earliestOf 37 = .ok (.iload_n 1, 1) := by decide +kernel
theorem dX7_earliestOf_38 : decode cX7_earliestOf 38 = .ok (.iload_n 2, 1) := by decide +kernel
theorem dX7_earliestOf_39 : decode cX7_earliestOf 39 = .ok (.aload_n 0, 1) := by decide +kernel
theorem dX7_earliestOf_40 : decode cX7_earliestOf 40 = .ok (.getfield 40, 3) := by decide +kernel
theorem dX7_earliestOf_43 : decode cX7_earliestOf 43 = .ok (.iload_n 1, 1) := by decide +kernel
theorem dX7_earliestOf_44 : decode cX7_earliestOf 44 = .ok (.iaload, 1) := by decide +kernel
theorem dX7_earliestOf_45 : decode cX7_earliestOf 45 = .ok (.iconst 1, 1) := by decide +kernel
theorem dX7_earliestOf_46 : decode cX7_earliestOf 46 = .ok (.iadd, 1) := by decide +kernel
theorem dX7_earliestOf_47 : decode cX7_earliestOf 47 = .ok (.invokevirtual 149, 3) := by decide +kernel
theorem dX7_earliestOf_50 : decode cX7_earliestOf 50 = .ok (.aload_n 0, 1) := by decide +kernel
theorem dX7_earliestOf_51 : decode cX7_earliestOf 51 = .ok (.getfield 152, 3) := by decide +kernel
theorem dX7_earliestOf_54 : decode cX7_earliestOf 54 = .ok (.if_icmp .ge 6, 3) := by decide +kernel
theorem dX7_earliestOf_57 : decode cX7_earliestOf 57 = .ok (.goto 48, 3) := by decide +kernel
theorem dX7_earliestOf_60 : decode cX7_earliestOf 60 = .ok (.iconst 0, 1) := by decide +kernel
theorem dX7_earliestOf_61 : decode cX7_earliestOf 61 = .ok (.istore_n 3, 1) := by decide +kernel
theorem dX7_earliestOf_62 : decode cX7_earliestOf 62 = .ok (.iload_n 3, 1) := by decide +kernel
theorem dX7_earliestOf_63 : decode cX7_earliestOf 63 = .ok (.bipush 21, 2) := by decide +kernel
theorem dX7_earliestOf_65 : decode cX7_earliestOf 65 = .ok (.if_icmp .ge 40, 3) := by decide +kernel
theorem dX7_earliestOf_68 : decode cX7_earliestOf 68 = .ok (.aload_n 0, 1) := by decide +kernel
theorem dX7_earliestOf_69 : decode cX7_earliestOf 69 = .ok (.iload_n 1, 1) := by decide +kernel
theorem dX7_earliestOf_70 : decode cX7_earliestOf 70 = .ok (.iload_n 3, 1) := by decide +kernel
theorem dX7_earliestOf_71 : decode cX7_earliestOf 71 = .ok (.iconst 3, 1) := by decide +kernel
theorem dX7_earliestOf_72 : decode cX7_earliestOf 72 = .ok (.irem, 1) := by decide +kernel
theorem dX7_earliestOf_73 : decode cX7_earliestOf 73 = .ok (.iload_n 2, 1) := by decide +kernel
theorem dX7_earliestOf_74 : decode cX7_earliestOf 74 = .ok (.iload_n 3, 1) := by decide +kernel
theorem dX7_earliestOf_75 : decode cX7_earliestOf 75 = .ok (.iconst 3, 1) := by decide +kernel
theorem dX7_earliestOf_76 : decode cX7_earliestOf 76 = .ok (.idiv, 1) := by decide +kernel
theorem dX7_earliestOf_77 : decode cX7_earliestOf 77 = .ok (.invokevirtual 155, 3) := by decide +kernel
theorem dX7_earliestOf_80 : decode cX7_earliestOf 80 = .ok (.ifCond .ne 19, 3) := by decide +kernel
theorem dX7_earliestOf_83 : decode cX7_earliestOf 83 = .ok (.bipush 100, 2) := by decide +kernel
theorem dX7_earliestOf_85 : decode cX7_earliestOf 85 = .ok (.iload_n 2, 1) := by decide +kernel
theorem dX7_earliestOf_86 : decode cX7_earliestOf 86 = .ok (.imul, 1) := by decide +kernel
theorem dX7_earliestOf_87 : decode cX7_earliestOf 87 = .ok (.bipush 10, 2) := by decide +kernel
theorem dX7_earliestOf_89 : decode cX7_earliestOf 89 = .ok (.iload_n 3, 1) := by decide +kernel
theorem dX7_earliestOf_90 : decode cX7_earliestOf 90 = .ok (.iconst 3, 1) := by decide +kernel
theorem dX7_earliestOf_91 : decode cX7_earliestOf 91 = .ok (.idiv, 1) := by decide +kernel
theorem dX7_earliestOf_92 : decode cX7_earliestOf 92 = .ok (.imul, 1) := by decide +kernel
theorem dX7_earliestOf_93 : decode cX7_earliestOf 93 = .ok (.iadd, 1) := by decide +kernel
theorem dX7_earliestOf_94 : decode cX7_earliestOf 94 = .ok (.iload_n 3, 1) := by decide +kernel
theorem dX7_earliestOf_95 : decode cX7_earliestOf 95 = .ok (.iconst 3, 1) := by decide +kernel
theorem dX7_earliestOf_96 : decode cX7_earliestOf 96 = .ok (.irem, 1) := by decide +kernel
theorem dX7_earliestOf_97 : decode cX7_earliestOf 97 = .ok (.iadd, 1) := by decide +kernel
theorem dX7_earliestOf_98 : decode cX7_earliestOf 98 = .ok (.ireturn, 1) := by decide +kernel
theorem dX7_earliestOf_99 : decode cX7_earliestOf 99 = .ok (.iinc 3 1, 3) := by decide +kernel
theorem dX7_earliestOf_102 : decode cX7_earliestOf 102 = .ok (.goto (-40), 3) := by decide +kernel
theorem dX7_earliestOf_105 : decode cX7_earliestOf 105 = .ok (.iinc 2 1, 3) := by decide +kernel
theorem dX7_earliestOf_108 : decode cX7_earliestOf 108 = .ok (.goto (-79), 3) := by decide +kernel
theorem dX7_earliestOf_111 : decode cX7_earliestOf 111 = .ok (.iconst (-1), 1) := by decide +kernel
theorem dX7_earliestOf_112 : decode cX7_earliestOf 112 = .ok (.ireturn, 1) := by decide +kernel
theorem dX7_clear_0 : decode cX7_clear 0 = .ok (.aload_n 0, 1) := by decide +kernel
theorem dX7_clear_1 : decode cX7_clear 1 = .ok (.iconst 0, 1) := by decide +kernel
theorem dX7_clear_2 : decode cX7_clear 2 = .ok (.putfield 81, 3) := by decide +kernel
theorem dX7_clear_5 : decode cX7_clear 5 = .ok (.aload_n 0, 1) := by decide +kernel
theorem dX7_clear_6 : decode cX7_clear 6 = .ok (.getfield 84, 3) := by decide +kernel
theorem dX7_clear_9 : decode cX7_clear 9 = .ok (.istore_n 1, 1) := by decide +kernel
theorem dX7_clear_10 : decode cX7_clear 10 = .ok (.aload_n 0, 1) := by decide +kernel
theorem dX7_clear_11 : decode cX7_clear 11 = .ok (.iconst 0, 1) := by decide +kernel
theorem dX7_clear_12 : decode cX7_clear 12 = .ok (.putfield 84, 3) := by decide +kernel
theorem dX7_clear_15 : decode cX7_clear 15 = .ok (.aload_n 0, 1) := by decide +kernel
theorem dX7_clear_16 : decode cX7_clear 16 = .ok (.iconst 0, 1) := by decide +kernel
theorem dX7_clear_17 : decode cX7_clear 17 = .ok (.putfield 91, 3) := by decide +kernel
theorem dX7_clear_20 : decode cX7_clear 20 = .ok (.aload_n 0, 1) := by decide +kernel
theorem dX7_clear_21 : decode cX7_clear 21 = .ok (.iconst 0, 1) := by decide +kernel
theorem dX7_clear_22 : decode cX7_clear 22 = .ok (.putfield 159, 3) := by decide +kernel
theorem dX7_clear_25 : decode cX7_clear 25 = .ok (.aload_n 0, 1) := by decide +kernel
theorem dX7_clear_26 : decode cX7_clear 26 = .ok (.iconst 0, 1) := by decide +kernel
theorem dX7_clear_27 : decode cX7_clear 27 = .ok (.putfield 162, 3) := by decide +kernel
theorem dX7_clear_30 : decode cX7_clear 30 = .ok (.aload_n 0, 1) := by decide +kernel
theorem dX7_clear_31 : decode cX7_clear 31 = .ok (.iconst 0, 1) := by decide +kernel
theorem dX7_clear_32 : decode cX7_clear 32 = .ok (.putfield 152, 3) := by decide +kernel
theorem dX7_clear_35 : decode cX7_clear 35 = .ok (.aload_n 0, 1) := by decide +kernel
theorem dX7_clear_36 : decode cX7_clear 36 = .ok (.iconst 0, 1) := by decide +kernel
theorem dX7_clear_37 : decode cX7_clear 37 = .ok (.putfield 165, 3) := by decide +kernel
theorem dX7_clear_40 : decode cX7_clear 40 = .ok (.iload_n 1, 1) := by decide +kernel
theorem dX7_clear_41 : decode cX7_clear 41 = .ok (.ireturn, 1) := by decide +kernel
theorem dX7_addPerson_0 : decode cX7_addPerson 0 = .ok (.iload_n 1, 1) := by decide +kernel
theorem dX7_addPerson_1 : decode cX7_addPerson 1 = .ok (.iconst 0, 1) := by decide +kernel
theorem dX7_addPerson_2 : decode cX7_addPerson 2 = .ok (.iconst 2, 1) := by decide +kernel
theorem dX7_addPerson_3 : decode cX7_addPerson 3 = .ok (.invokestatic 87, 3) := by decide +kernel
theorem dX7_addPerson_6 : decode cX7_addPerson 6 = .ok (.ifCond .eq 33, 3) := by decide +kernel
theorem dX7_addPerson_9 : decode cX7_addPerson 9 = .ok (.iload_n 2, 1) := by decide +kernel
theorem dX7_addPerson_10 : decode cX7_addPerson 10 = .ok (.iconst 0, 1) := by decide +kernel
theorem dX7_addPerson_11 : decode cX7_addPerson 11 = .ok (.bipush 63, 2) := by decide +kernel
theorem dX7_addPerson_13 : decode cX7_addPerson 13 = .ok (.invokestatic 87, 3) := by decide +kernel
theorem dX7_addPerson_16 : decode cX7_addPerson 16 = .ok (.ifCond .eq 23, 3) := by decide +kernel
theorem dX7_addPerson_19 : decode cX7_addPerson 19 = .ok (.iload_n 3, 1) := by decide +kernel
theorem dX7_addPerson_20 : decode cX7_addPerson 20 = .ok (.iconst 0, 1) := by decide +kernel
theorem dX7_addPerson_21 : decode cX7_addPerson 21 = .ok (.iconst 3, 1) := by decide +kernel
theorem dX7_addPerson_22 : decode cX7_addPerson 22 = .ok (.invokestatic 87, 3) := by decide +kernel
theorem dX7_addPerson_25 : decode cX7_addPerson 25 = .ok (.ifCond .eq 14, 3) := by decide +kernel
theorem dX7_addPerson_28 : decode cX7_addPerson 28 = .ok (.iload 4, 2) := by decide +kernel
theorem dX7_addPerson_30 : decode cX7_addPerson 30 = .ok (.iconst 1, 1) := by decide +kernel
theorem dX7_addPerson_31 : decode cX7_addPerson 31 = .ok (.bipush 6, 2) := by decide +kernel
theorem dX7_addPerson_33 : decode cX7_addPerson 33 = .ok (.invokestatic 87, 3) := by decide +kernel
theorem dX7_addPerson_36 : decode cX7_addPerson 36 = .ok (.ifCond .ne 9, 3) := by decide +kernel
theorem dX7_addPerson_39 : decode cX7_addPerson 39 = .ok (.aload_n 0, 1) := by decide +kernel
theorem dX7_addPerson_40 : decode cX7_addPerson 40 = .ok (.iconst 1, 1) := by decide +kernel
theorem dX7_addPerson_41 : decode cX7_addPerson 41 = .ok (.invokevirtual 168, 3) := by decide +kernel
theorem dX7_addPerson_44 : decode cX7_addPerson 44 = .ok (.ireturn, 1) := by decide +kernel
theorem dX7_addPerson_45 : decode cX7_addPerson 45 = .ok (.aload_n 0, 1) := by decide +kernel
theorem dX7_addPerson_46 : decode cX7_addPerson 46 = .ok (.getfield 84, 3) := by decide +kernel
theorem dX7_addPerson_49 : decode cX7_addPerson 49 = .ok (.bipush 14, 2) := by decide +kernel
theorem dX7_addPerson_51 : decode cX7_addPerson 51 = .ok (.if_icmp .ne 9, 3) := by decide +kernel
theorem dX7_addPerson_54 : decode cX7_addPerson 54 = .ok (.aload_n 0, 1) := by decide +kernel
theorem dX7_addPerson_55 : decode cX7_addPerson 55 = .ok (.iconst 2, 1) := by decide +kernel
theorem dX7_addPerson_56 : decode cX7_addPerson 56 = .ok (.invokevirtual 168, 3) := by decide +kernel
theorem dX7_addPerson_59 : decode cX7_addPerson 59 = .ok (.ireturn, 1) := by decide +kernel
theorem dX7_addPerson_60 : decode cX7_addPerson 60 = .ok (.aload_n 0, 1) := by decide +kernel
theorem dX7_addPerson_61 : decode cX7_addPerson 61 = .ok (.iconst 0, 1) := by decide +kernel
theorem dX7_addPerson_62 : decode cX7_addPerson 62 = .ok (.putfield 81, 3) := by decide +kernel
theorem dX7_addPerson_65 : decode cX7_addPerson 65 = .ok (.aload_n 0, 1) := by decide +kernel
theorem dX7_addPerson_66 : decode cX7_addPerson 66 = .ok (.invokevirtual 171, 3) := by decide +kernel
theorem dX7_addPerson_69 : decode cX7_addPerson 69 = .ok (.aload_n 0, 1) := by decide +kernel
theorem dX7_addPerson_70 : decode cX7_addPerson 70 = .ok (.getfield 84, 3) := by decide +kernel
theorem dX7_addPerson_73 : decode cX7_addPerson 73 = .ok (.istore 5, 2) := by decide +kernel
theorem dX7_addPerson_75 : decode cX7_addPerson 75 = .ok (.aload_n 0, 1) := by decide +kernel
theorem dX7_addPerson_76 : decode cX7_addPerson 76 = .ok (.getfield 7, 3) := by decide +kernel
theorem dX7_addPerson_79 : decode cX7_addPerson 79 = .ok (.iload 5, 2) := by decide +kernel
theorem dX7_addPerson_81 : decode cX7_addPerson 81 = .ok (.iload_n 1, 1) := by decide +kernel
theorem dX7_addPerson_82 : decode cX7_addPerson 82 = .ok (.iastore, 1) := by decide +kernel
theorem dX7_addPerson_83 : decode cX7_addPerson 83 = .ok (.aload_n 0, 1) := by decide +kernel
theorem dX7_addPerson_84 : decode cX7_addPerson 84 = .ok (.getfield 13, 3) := by decide +kernel
theorem dX7_addPerson_87 : decode cX7_addPerson 87 = .ok (.iload 5, 2) := by decide +kernel
theorem dX7_addPerson_89 : decode cX7_addPerson 89 = .ok (.iload_n 2, 1) := by decide +kernel
theorem dX7_addPerson_90 : decode cX7_addPerson 90 = .ok (.iastore, 1) := by decide +kernel
theorem dX7_addPerson_91 : decode cX7_addPerson 91 = .ok (.aload_n 0, 1) := by decide +kernel
theorem dX7_addPerson_92 : decode cX7_addPerson 92 = .ok (.getfield 16, 3) := by decide +kernel
theorem dX7_addPerson_95 : decode cX7_addPerson 95 = .ok (.iload 5, 2) := by decide +kernel
theorem dX7_addPerson_97 : decode cX7_addPerson 97 = .ok (.iload_n 3, 1) := by decide +kernel
theorem dX7_addPerson_98 : decode cX7_addPerson 98 = .ok (.iastore, 1) := by decide +kernel
theorem dX7_addPerson_99 : decode cX7_addPerson 99 = .ok (.aload_n 0, 1) := by decide +kernel
theorem dX7_addPerson_100 : decode cX7_addPerson 100 = .ok (.getfield 19, 3) := by decide +kernel
theorem dX7_addPerson_103 : decode cX7_addPerson 103 = .ok (.iload 5, 2) := by decide +kernel
theorem dX7_addPerson_105 : decode cX7_addPerson 105 = .ok (.iload 4, 2) := by decide +kernel
theorem dX7_addPerson_107 : decode cX7_addPerson 107 = .ok (.iastore, 1) := by decide +kernel
theorem dX7_addPerson_108 : decode cX7_addPerson 108 = .ok (.aload_n 0, 1) := by decide +kernel
theorem dX7_addPerson_109 : decode cX7_addPerson 109 = .ok (.getfield 22, 3) := by decide +kernel
theorem dX7_addPerson_112 : decode cX7_addPerson 112 = .ok (.iload 5, 2) := by decide +kernel
theorem dX7_addPerson_114 : decode cX7_addPerson 114 = .ok (.iconst 0, 1) := by decide +kernel
theorem dX7_addPerson_115 : decode cX7_addPerson 115 = .ok (.iastore, 1) := by decide +kernel
theorem dX7_addPerson_116 : decode cX7_addPerson 116 = .ok (.iconst 0, 1) := by decide +kernel
theorem dX7_addPerson_117 : decode cX7_addPerson 117 = .ok (.istore 6, 2) := by decide +kernel
theorem dX7_addPerson_119 : decode cX7_addPerson 119 = .ok (.iload 6, 2) := by decide +kernel
theorem dX7_addPerson_121 : decode cX7_addPerson 121 = .ok (.bipush 101, 2) := by decide +kernel
theorem dX7_addPerson_123 : decode cX7_addPerson 123 = .ok (.if_icmp .ge 23, 3) := by decide +kernel
theorem dX7_addPerson_126 : decode cX7_addPerson 126 = .ok (.aload_n 0, 1) := by decide +kernel
theorem dX7_addPerson_127 : decode cX7_addPerson 127 = .ok (.getfield 25, 3) := by decide +kernel
theorem dX7_addPerson_130 : decode cX7_addPerson 130 = .ok (.bipush 101, 2) := by decide +kernel
theorem dX7_addPerson_132 : decode cX7_addPerson 132 = .ok (.iload 5, 2) := by decide +kernel
theorem dX7_addPerson_134 : decode cX7_addPerson 134 = .ok (.imul, 1) := by decide +kernel
theorem dX7_addPerson_135 : decode cX7_addPerson 135 = .ok (.iload 6, 2) := by decide +kernel
theorem dX7_addPerson_137 : decode cX7_addPerson 137 = .ok (.iadd, 1) := by decide +kernel
theorem dX7_addPerson_138 : decode cX7_addPerson 138 = .ok (.iconst 0, 1) := by decide +kernel
theorem dX7_addPerson_139 : decode cX7_addPerson 139 = .ok (.iastore, 1) := by decide +kernel
theorem dX7_addPerson_140 : decode cX7_addPerson 140 = .ok (.iinc 6 1, 3) := by decide +kernel
theorem dX7_addPerson_143 : decode cX7_addPerson 143 = .ok (.goto (-24), 3) := by decide +kernel
theorem dX7_addPerson_146 : decode cX7_addPerson 146 = .ok (.aload_n 0, 1) := by decide +kernel
theorem dX7_addPerson_147 : decode cX7_addPerson 147 = .ok (.dup, 1) := by decide +kernel
theorem dX7_addPerson_148 : decode cX7_addPerson 148 = .ok (.getfield 84, 3) := by decide +kernel
theorem dX7_addPerson_151 : decode cX7_addPerson 151 = .ok (.iconst 1, 1) := by decide +kernel
theorem dX7_addPerson_152 : decode cX7_addPerson 152 = .ok (.iadd, 1) := by decide +kernel
theorem dX7_addPerson_153 : decode cX7_addPerson 153 = .ok (.putfield 84, 3) := by decide +kernel
theorem dX7_addPerson_156 : decode cX7_addPerson 156 = .ok (.iload 5, 2) := by decide +kernel
theorem dX7_addPerson_158 : decode cX7_addPerson 158 = .ok (.ireturn, 1) := by decide +kernel
theorem dX7_with_0 : decode cX7_with 0 = .ok (.iload_n 2, 1) := by decide +kernel
theorem dX7_with_1 : decode cX7_with 1 = .ok (.ifCond .eq 11, 3) := by decide +kernel
theorem dX7_with_4 : decode cX7_with 4 = .ok (.iload_n 0, 1) := by decide +kernel
theorem dX7_with_5 : decode cX7_with 5 = .ok (.iconst 1, 1) := by decide +kernel
theorem dX7_with_6 : decode cX7_with 6 = .ok (.iload_n 1, 1) := by decide +kernel
theorem dX7_with_7 : decode cX7_with 7 = .ok (.ishl, 1) := by decide +kernel
theorem dX7_with_8 : decode cX7_with 8 = .ok (.ior, 1) := by decide +kernel
theorem dX7_with_9 : decode cX7_with 9 = .ok (.goto 10, 3) := by decide +kernel
theorem dX7_with_12 : decode cX7_with 12 = .ok (.iload_n 0, 1) := by decide +kernel
theorem dX7_with_13 : decode cX7_with 13 = .ok (.iconst 1, 1) := by decide +kernel
theorem dX7_with_14 : decode cX7_with 14 = .ok (.iload_n 1, 1) := by decide +kernel
theorem dX7_with_15 : decode cX7_with 15 = .ok (.ishl, 1) := by decide +kernel
theorem dX7_with_16 : decode cX7_with 16 = .ok (.iconst (-1), 1) := by decide +kernel
theorem dX7_with_17 : decode cX7_with 17 = .ok (.ixor, 1) := by decide +kernel
theorem dX7_with_18 : decode cX7_with 18 = .ok (.iand, 1) := by decide +kernel
theorem dX7_with_19 : decode cX7_with 19 = .ok (.ireturn, 1) := by decide +kernel
theorem dX7_setConflict_0 : decode cX7_setConflict 0 = .ok (.aload_n 0, 1) := by decide +kernel
theorem dX7_setConflict_1 : decode cX7_setConflict 1 = .ok (.iload_n 1, 1) := by decide +kernel
theorem dX7_setConflict_2 : decode cX7_setConflict 2 = .ok (.invokevirtual 174, 3) := by decide +kernel
theorem dX7_setConflict_5 : decode cX7_setConflict 5 = .ok (.ifCond .eq 11, 3) := by decide +kernel
theorem dX7_setConflict_8 : decode cX7_setConflict 8 = .ok (.aload_n 0, 1) := by decide +kernel
theorem dX7_setConflict_9 : decode cX7_setConflict 9 = .ok (.iload_n 2, 1) := by decide +kernel
theorem dX7_setConflict_10 : decode cX7_setConflict 10 = .ok (.invokevirtual 174, 3) := by decide +kernel
theorem dX7_setConflict_13 : decode cX7_setConflict 13 = .ok (.ifCond .ne 9, 3) := by decide +kernel
theorem dX7_setConflict_16 : decode cX7_setConflict 16 = .ok (.aload_n 0, 1) := by decide +kernel
theorem dX7_setConflict_17 : decode cX7_setConflict 17 = .ok (.iconst 1, 1) := by decide +kernel
theorem dX7_setConflict_18 : decode cX7_setConflict 18 = .ok (.invokevirtual 177, 3) := by decide +kernel
theorem dX7_setConflict_21 : decode cX7_setConflict 21 = .ok (.ireturn, 1) := by decide +kernel
theorem dX7_setConflict_22 : decode cX7_setConflict 22 = .ok (.iload_n 1, 1) := by decide +kernel
theorem dX7_setConflict_23 : decode cX7_setConflict 23 = .ok (.iload_n 2, 1) := by decide +kernel
theorem dX7_setConflict_24 : decode cX7_setConflict 24 = .ok (.if_icmp .ne 9, 3) := by decide +kernel
theorem dX7_setConflict_27 : decode cX7_setConflict 27 = .ok (.aload_n 0, 1) := by decide +kernel
theorem dX7_setConflict_28 : decode cX7_setConflict 28 = .ok (.iconst 2, 1) := by decide +kernel
theorem dX7_setConflict_29 : decode cX7_setConflict 29 = .ok (.invokevirtual 177, 3) := by decide +kernel
theorem dX7_setConflict_32 : decode cX7_setConflict 32 = .ok (.ireturn, 1) := by decide +kernel
theorem dX7_setConflict_33 : decode cX7_setConflict 33 = .ok (.aload_n 0, 1) := by decide +kernel
theorem dX7_setConflict_34 : decode cX7_setConflict 34 = .ok (.iconst 0, 1) := by decide +kernel
theorem dX7_setConflict_35 : decode cX7_setConflict 35 = .ok (.putfield 81, 3) := by decide +kernel
theorem dX7_setConflict_38 : decode cX7_setConflict 38 = .ok (.aload_n 0, 1) := by decide +kernel
theorem dX7_setConflict_39 : decode cX7_setConflict 39 = .ok (.invokevirtual 171, 3) := by decide +kernel
theorem dX7_setConflict_42 : decode cX7_setConflict 42 = .ok (.aload_n 0, 1) := by decide +kernel
theorem dX7_setConflict_43 : decode cX7_setConflict 43 = .ok (.iload_n 1, 1) := by decide +kernel
theorem dX7_setConflict_44 : decode cX7_setConflict 44 = .ok (.iload_n 2, 1) := by decide +kernel
theorem dX7_setConflict_45 : decode cX7_setConflict 45 = .ok (.invokevirtual 122, 3) := by decide +kernel
theorem dX7_setConflict_48 : decode cX7_setConflict 48 = .ok (.ifCond .ne 7, 3) := by decide +kernel
theorem dX7_setConflict_51 : decode cX7_setConflict 51 = .ok (.iconst 1, 1) := by decide +kernel
theorem dX7_setConflict_52 : decode cX7_setConflict 52 = .ok (.goto 4, 3) := by decide +kernel
theorem dX7_setConflict_55 : decode cX7_setConflict 55 = .ok (.iconst 0, 1) := by decide +kernel
theorem dX7_setConflict_56 : decode cX7_setConflict 56 = .ok (.istore 4, 2) := by decide +kernel
theorem dX7_setConflict_58 : decode cX7_setConflict 58 = .ok (.aload_n 0, 1) := by decide +kernel
theorem dX7_setConflict_59 : decode cX7_setConflict 59 = .ok (.getfield 22, 3) := by decide +kernel
theorem dX7_setConflict_62 : decode cX7_setConflict 62 = .ok (.iload_n 1, 1) := by decide +kernel
theorem dX7_setConflict_63 : decode cX7_setConflict 63 = .ok (.aload_n 0, 1) := by decide +kernel
theorem dX7_setConflict_64 : decode cX7_setConflict 64 = .ok (.getfield 22, 3) := by decide +kernel
theorem dX7_setConflict_67 : decode cX7_setConflict 67 = .ok (.iload_n 1, 1) := by decide +kernel
theorem dX7_setConflict_68 : decode cX7_setConflict 68 = .ok (.iaload, 1) := by decide +kernel
theorem dX7_setConflict_69 : decode cX7_setConflict 69 = .ok (.iload_n 2, 1) := by decide +kernel
theorem dX7_setConflict_70 : decode cX7_setConflict 70 = .ok (.iload_n 3, 1) := by decide +kernel
theorem dX7_setConflict_71 : decode cX7_setConflict 71 = .ok (.invokestatic 180, 3) := by decide +kernel
theorem dX7_setConflict_74 : decode cX7_setConflict 74 = .ok (.iastore, 1) := by decide +kernel
theorem dX7_setConflict_75 : decode cX7_setConflict 75 = .ok (.aload_n 0, 1) := by decide +kernel
theorem dX7_setConflict_76 : decode cX7_setConflict 76 = .ok (.getfield 22, 3) := by decide +kernel
theorem dX7_setConflict_79 : decode cX7_setConflict 79 = .ok (.iload_n 2, 1) := by decide +kernel
theorem dX7_setConflict_80 : decode cX7_setConflict 80 = .ok (.aload_n 0, 1) := by decide +kernel
theorem dX7_setConflict_81 : decode cX7_setConflict 81 = .ok (.getfield 22, 3) := by decide +kernel
theorem dX7_setConflict_84 : decode cX7_setConflict 84 = .ok (.iload_n 2, 1) := by decide +kernel
theorem dX7_setConflict_85 : decode cX7_setConflict 85 = .ok (.iaload, 1) := by decide +kernel
theorem dX7_setConflict_86 : decode cX7_setConflict 86 = .ok (.iload_n 1, 1) := by decide +kernel
theorem dX7_setConflict_87 : decode cX7_setConflict 87 = .ok (.iload_n 3, 1) := by decide +kernel
