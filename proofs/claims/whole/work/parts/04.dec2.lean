theorem dX4_earliestTime_56 : decode cX4_earliestTime 56 = .ok (.goto (-29), 3) := by decide +kernel
theorem dX4_earliestTime_59 : decode cX4_earliestTime 59 = .ok (.iconst (-1), 1) := by decide +kernel
theorem dX4_earliestTime_60 : decode cX4_earliestTime 60 = .ok (.ireturn, 1) := by decide +kernel
theorem dX4_earliestTimeOn_0 : decode cX4_earliestTimeOn 0 = .ok (.aload_n 0, 1) := by decide +kernel
theorem dX4_earliestTimeOn_1 : decode cX4_earliestTimeOn 1 = .ok (.aload_n 1, 1) := by decide +kernel
theorem dX4_earliestTimeOn_2 : decode cX4_earliestTimeOn 2 = .ok (.iload_n 2, 1) := by decide +kernel
theorem dX4_earliestTimeOn_3 : decode cX4_earliestTimeOn 3 = .ok (.invokevirtual 170, 3) := by decide +kernel
theorem dX4_earliestTimeOn_6 : decode cX4_earliestTimeOn 6 = .ok (.istore_n 3, 1) := by decide +kernel
theorem dX4_earliestTimeOn_7 : decode cX4_earliestTimeOn 7 = .ok (.iconst 0, 1) := by decide +kernel
theorem dX4_earliestTimeOn_8 : decode cX4_earliestTimeOn 8 = .ok (.istore 4, 2) := by decide +kernel
theorem dX4_earliestTimeOn_10 : decode cX4_earliestTimeOn 10 = .ok (.iload 4, 2) := by decide +kernel
theorem dX4_earliestTimeOn_12 : decode cX4_earliestTimeOn 12 = .ok (.bipush 6, 2) := by decide +kernel
theorem dX4_earliestTimeOn_14 : decode cX4_earliestTimeOn 14 = .ok (.if_icmp .gt 58, 3) := by decide +kernel
theorem dX4_earliestTimeOn_17 : decode cX4_earliestTimeOn 17 = .ok (.iconst 0, 1) := by decide +kernel
theorem dX4_earliestTimeOn_18 : decode cX4_earliestTimeOn 18 = .ok (.istore 5, 2) := by decide +kernel
theorem dX4_earliestTimeOn_20 : decode cX4_earliestTimeOn 20 = .ok (.iload 5, 2) := by decide +kernel
theorem dX4_earliestTimeOn_22 : decode cX4_earliestTimeOn 22 = .ok (.iconst 3, 1) := by decide +kernel
theorem dX4_earliestTimeOn_23 : decode cX4_earliestTimeOn 23 = .ok (.if_icmp .ge 43, 3) := by decide +kernel
theorem dX4_earliestTimeOn_26 : decode cX4_earliestTimeOn 26 = .ok (.iload_n 3, 1) := by decide +kernel
theorem dX4_earliestTimeOn_27 : decode cX4_earliestTimeOn 27 = .ok (.iconst 3, 1) := by decide +kernel
theorem dX4_earliestTimeOn_28 : decode cX4_earliestTimeOn 28 = .ok (.iload 4, 2) := by decide +kernel
theorem dX4_earliestTimeOn_30 : decode cX4_earliestTimeOn 30 = .ok (.ishl, 1) := by decide +kernel
theorem dX4_earliestTimeOn_31 : decode cX4_earliestTimeOn 31 = .ok (.iand, 1) := by decide +kernel
theorem dX4_earliestTimeOn_32 : decode cX4_earliestTimeOn 32 = .ok (.ifCond .ne 34, 3) := by decide +kernel
theorem dX4_earliestTimeOn_35 : decode cX4_earliestTimeOn 35 = .ok (.aload_n 0, 1) := by decide +kernel
theorem dX4_earliestTimeOn_36 : decode cX4_earliestTimeOn 36 = .ok (.iload 5, 2) := by decide +kernel
theorem dX4_earliestTimeOn_38 : decode cX4_earliestTimeOn 38 = .ok (.iload_n 2, 1) := by decide +kernel
theorem dX4_earliestTimeOn_39 : decode cX4_earliestTimeOn 39 = .ok (.aload_n 1, 1) := by decide +kernel
theorem dX4_earliestTimeOn_40 : decode cX4_earliestTimeOn 40 = .ok (.invokevirtual 166, 3) := by decide +kernel
theorem dX4_earliestTimeOn_43 : decode cX4_earliestTimeOn 43 = .ok (.iconst 3, 1) := by decide +kernel
theorem dX4_earliestTimeOn_44 : decode cX4_earliestTimeOn 44 = .ok (.iload 4, 2) := by decide +kernel
theorem dX4_earliestTimeOn_46 : decode cX4_earliestTimeOn 46 = .ok (.ishl, 1) := by decide +kernel
theorem dX4_earliestTimeOn_47 : decode cX4_earliestTimeOn 47 = .ok (.iand, 1) := by decide +kernel
theorem dX4_earliestTimeOn_48 : decode cX4_earliestTimeOn 48 = .ok (.ifCond .ne 12, 3) := by decide +kernel
theorem dX4_earliestTimeOn_51 : decode cX4_earliestTimeOn 51 = .ok (.bipush 10, 2) := by decide +kernel
theorem dX4_earliestTimeOn_53 : decode cX4_earliestTimeOn 53 = .ok (.iload 4, 2) := by decide +kernel
theorem dX4_earliestTimeOn_55 : decode cX4_earliestTimeOn 55 = .ok (.imul, 1) := by decide +kernel
theorem dX4_earliestTimeOn_56 : decode cX4_earliestTimeOn 56 = .ok (.iload 5, 2) := by decide +kernel
theorem dX4_earliestTimeOn_58 : decode cX4_earliestTimeOn 58 = .ok (.iadd, 1) := by decide +kernel
theorem dX4_earliestTimeOn_59 : decode cX4_earliestTimeOn 59 = .ok (.ireturn, 1) := by decide +kernel
theorem dX4_earliestTimeOn_60 : decode cX4_earliestTimeOn 60 = .ok (.iinc 5 1, 3) := by decide +kernel
theorem dX4_earliestTimeOn_63 : decode cX4_earliestTimeOn 63 = .ok (.goto (-43), 3) := by decide +kernel
theorem dX4_earliestTimeOn_66 : decode cX4_earliestTimeOn 66 = .ok (.iinc 4 1, 3) := by decide +kernel
theorem dX4_earliestTimeOn_69 : decode cX4_earliestTimeOn 69 = .ok (.goto (-59), 3) := by decide +kernel
theorem dX4_earliestTimeOn_72 : decode cX4_earliestTimeOn 72 = .ok (.iconst (-1), 1) := by decide +kernel
theorem dX4_earliestTimeOn_73 : decode cX4_earliestTimeOn 73 = .ok (.ireturn, 1) := by decide +kernel
theorem dX4_thesisInRoom_0 : decode cX4_thesisInRoom 0 = .ok (.aload_n 0, 1) := by decide +kernel
theorem dX4_thesisInRoom_1 : decode cX4_thesisInRoom 1 = .ok (.getfield 22, 3) := by decide +kernel
theorem dX4_thesisInRoom_4 : decode cX4_thesisInRoom 4 = .ok (.astore 4, 2) := by decide +kernel
theorem dX4_thesisInRoom_6 : decode cX4_thesisInRoom 6 = .ok (.aload 4, 2) := by decide +kernel
theorem dX4_thesisInRoom_8 : decode cX4_thesisInRoom 8 = .ok (.arraylength, 1) := by decide +kernel
theorem dX4_thesisInRoom_9 : decode cX4_thesisInRoom 9 = .ok (.istore 5, 2) := by decide +kernel
theorem dX4_thesisInRoom_11 : decode cX4_thesisInRoom 11 = .ok (.iconst 0, 1) := by decide +kernel
theorem dX4_thesisInRoom_12 : decode cX4_thesisInRoom 12 = .ok (.istore 6, 2) := by decide +kernel
theorem dX4_thesisInRoom_14 : decode cX4_thesisInRoom 14 = .ok (.iload 6, 2) := by decide +kernel
theorem dX4_thesisInRoom_16 : decode cX4_thesisInRoom 16 = .ok (.iload 5, 2) := by decide +kernel
theorem dX4_thesisInRoom_18 : decode cX4_thesisInRoom 18 = .ok (.if_icmp .ge 44, 3) := by decide +kernel
theorem dX4_thesisInRoom_21 : decode cX4_thesisInRoom 21 = .ok (.aload 4, 2) := by decide +kernel
theorem dX4_thesisInRoom_23 : decode cX4_thesisInRoom 23 = .ok (.iload 6, 2) := by decide +kernel
theorem dX4_thesisInRoom_25 : decode cX4_thesisInRoom 25 = .ok (.aaload, 1) := by decide +kernel
theorem dX4_thesisInRoom_26 : decode cX4_thesisInRoom 26 = .ok (.astore 7, 2) := by decide +kernel
theorem dX4_thesisInRoom_28 : decode cX4_thesisInRoom 28 = .ok (.aload 7, 2) := by decide +kernel
theorem dX4_thesisInRoom_30 : decode cX4_thesisInRoom 30 = .ok (.getfield 163, 3) := by decide +kernel
theorem dX4_thesisInRoom_33 : decode cX4_thesisInRoom 33 = .ok (.iload_n 1, 1) := by decide +kernel
theorem dX4_thesisInRoom_34 : decode cX4_thesisInRoom 34 = .ok (.if_icmp .ne 22, 3) := by decide +kernel
theorem dX4_thesisInRoom_37 : decode cX4_thesisInRoom 37 = .ok (.aload 7, 2) := by decide +kernel
theorem dX4_thesisInRoom_39 : decode cX4_thesisInRoom 39 = .ok (.iload_n 2, 1) := by decide +kernel
theorem dX4_thesisInRoom_40 : decode cX4_thesisInRoom 40 = .ok (.invokevirtual 94, 3) := by decide +kernel
theorem dX4_thesisInRoom_43 : decode cX4_thesisInRoom 43 = .ok (.iload_n 3, 1) := by decide +kernel
theorem dX4_thesisInRoom_44 : decode cX4_thesisInRoom 44 = .ok (.ishr, 1) := by decide +kernel
theorem dX4_thesisInRoom_45 : decode cX4_thesisInRoom 45 = .ok (.iconst 1, 1) := by decide +kernel
theorem dX4_thesisInRoom_46 : decode cX4_thesisInRoom 46 = .ok (.iand, 1) := by decide +kernel
theorem dX4_thesisInRoom_47 : decode cX4_thesisInRoom 47 = .ok (.ifCond .eq 9, 3) := by decide +kernel
theorem dX4_thesisInRoom_50 : decode cX4_thesisInRoom 50 = .ok (.aload 7, 2) := by decide +kernel
theorem dX4_thesisInRoom_52 : decode cX4_thesisInRoom 52 = .ok (.getfield 186, 3) := by decide +kernel
theorem dX4_thesisInRoom_55 : decode cX4_thesisInRoom 55 = .ok (.ireturn, 1) := by decide +kernel
theorem dX4_thesisInRoom_56 : decode cX4_thesisInRoom 56 = .ok (.iinc 6 1, 3) := by decide +kernel
theorem dX4_thesisInRoom_59 : decode cX4_thesisInRoom 59 = .ok (.goto (-45), 3) := by decide +kernel
theorem dX4_thesisInRoom_62 : decode cX4_thesisInRoom 62 = .ok (.iconst (-1), 1) := by decide +kernel
theorem dX4_thesisInRoom_63 : decode cX4_thesisInRoom 63 = .ok (.ireturn, 1) := by decide +kernel
theorem dX4_canGoOn_0 : decode cX4_canGoOn 0 = .ok (.aload_n 1, 1) := by decide +kernel
theorem dX4_canGoOn_1 : decode cX4_canGoOn 1 = .ok (.invokevirtual 187, 3) := by decide +kernel
theorem dX4_canGoOn_4 : decode cX4_canGoOn 4 = .ok (.ifCond .eq 28, 3) := by decide +kernel
theorem dX4_canGoOn_7 : decode cX4_canGoOn 7 = .ok (.aload_n 1, 1) := by decide +kernel
theorem dX4_canGoOn_8 : decode cX4_canGoOn 8 = .ok (.getfield 177, 3) := by decide +kernel
theorem dX4_canGoOn_11 : decode cX4_canGoOn 11 = .ok (.iconst 1, 1) := by decide +kernel
theorem dX4_canGoOn_12 : decode cX4_canGoOn 12 = .ok (.iadd, 1) := by decide +kernel
theorem dX4_canGoOn_13 : decode cX4_canGoOn 13 = .ok (.iconst 4, 1) := by decide +kernel
theorem dX4_canGoOn_14 : decode cX4_canGoOn 14 = .ok (.if_icmp .lt 14, 3) := by decide +kernel
theorem dX4_canGoOn_17 : decode cX4_canGoOn 17 = .ok (.aload_n 1, 1) := by decide +kernel
theorem dX4_canGoOn_18 : decode cX4_canGoOn 18 = .ok (.getfield 143, 3) := by decide +kernel
theorem dX4_canGoOn_21 : decode cX4_canGoOn 21 = .ok (.aload_n 0, 1) := by decide +kernel
theorem dX4_canGoOn_22 : decode cX4_canGoOn 22 = .ok (.getfield 45, 3) := by decide +kernel
theorem dX4_canGoOn_25 : decode cX4_canGoOn 25 = .ok (.if_icmp .ne 7, 3) := by decide +kernel
theorem dX4_canGoOn_28 : decode cX4_canGoOn 28 = .ok (.iconst 1, 1) := by decide +kernel
theorem dX4_canGoOn_29 : decode cX4_canGoOn 29 = .ok (.goto 4, 3) := by decide +kernel
theorem dX4_canGoOn_32 : decode cX4_canGoOn 32 = .ok (.iconst 0, 1) := by decide +kernel
theorem dX4_canGoOn_33 : decode cX4_canGoOn 33 = .ok (.ireturn, 1) := by decide +kernel
theorem dX4_daysToNextDeadline_0 : decode cX4_daysToNextDeadline 0 = .ok (.iconst (-1), 1) := by decide +kernel
theorem dX4_daysToNextDeadline_1 : decode cX4_daysToNextDeadline 1 = .ok (.istore_n 1, 1) := by decide +kernel
theorem dX4_daysToNextDeadline_2 : decode cX4_daysToNextDeadline 2 = .ok (.aload_n 0, 1) := by decide +kernel
theorem dX4_daysToNextDeadline_3 : decode cX4_daysToNextDeadline 3 = .ok (.getfield 22, 3) := by decide +kernel
theorem dX4_daysToNextDeadline_6 : decode cX4_daysToNextDeadline 6 = .ok (.astore_n 2, 1) := by decide +kernel
theorem dX4_daysToNextDeadline_7 : decode cX4_daysToNextDeadline 7 = .ok (.aload_n 2, 1) := by decide +kernel
theorem dX4_daysToNextDeadline_8 : decode cX4_daysToNextDeadline 8 = .ok (.arraylength, 1) := by decide +kernel
theorem dX4_daysToNextDeadline_9 : decode cX4_daysToNextDeadline 9 = .ok (.istore_n 3, 1) := by decide +kernel
theorem dX4_daysToNextDeadline_10 : decode cX4_daysToNextDeadline 10 = .ok (.iconst 0, 1) := by decide +kernel
theorem dX4_daysToNextDeadline_11 : decode cX4_daysToNextDeadline 11 = .ok (.istore 4, 2) := by decide +kernel
theorem dX4_daysToNextDeadline_13 : decode cX4_daysToNextDeadline 13 = .ok (.iload 4, 2) := by decide +kernel
theorem dX4_daysToNextDeadline_15 : decode cX4_daysToNextDeadline 15 = .ok (.iload_n 3, 1) := by decide +kernel
theorem dX4_daysToNextDeadline_16 : decode cX4_daysToNextDeadline 16 = .ok (.if_icmp .ge 52, 3) := by decide +kernel
theorem dX4_daysToNextDeadline_19 : decode cX4_daysToNextDeadline 19 = .ok (.aload_n 2, 1) := by decide +kernel
theorem dX4_daysToNextDeadline_20 : decode cX4_daysToNextDeadline 20 = .ok (.iload 4, 2) := by decide +kernel
theorem dX4_daysToNextDeadline_22 : decode cX4_daysToNextDeadline 22 = .ok (.aaload, 1) := by decide +kernel
theorem dX4_daysToNextDeadline_23 : decode cX4_daysToNextDeadline 23 = .ok (.astore 5, 2) := by decide +kernel
theorem dX4_daysToNextDeadline_25 : decode cX4_daysToNextDeadline 25 = .ok (.aload 5, 2) := by decide +kernel
theorem dX4_daysToNextDeadline_27 : decode cX4_daysToNextDeadline 27 = .ok (.invokevirtual 187, 3) := by decide +kernel
theorem dX4_daysToNextDeadline_30 : decode cX4_daysToNextDeadline 30 = .ok (.ifCond .eq 32, 3) := by decide +kernel
theorem dX4_daysToNextDeadline_33 : decode cX4_daysToNextDeadline 33 = .ok (.aload 5, 2) := by decide +kernel
theorem dX4_daysToNextDeadline_35 : decode cX4_daysToNextDeadline 35 = .ok (.invokevirtual 190, 3) := by decide +kernel
theorem dX4_daysToNextDeadline_38 : decode cX4_daysToNextDeadline 38 = .ok (.aload_n 0, 1) := by decide +kernel
theorem dX4_daysToNextDeadline_39 : decode cX4_daysToNextDeadline 39 = .ok (.getfield 45, 3) := by decide +kernel
theorem dX4_daysToNextDeadline_42 : decode cX4_daysToNextDeadline 42 = .ok (.isub, 1) := by decide +kernel
theorem dX4_daysToNextDeadline_43 : decode cX4_daysToNextDeadline 43 = .ok (.istore 6, 2) := by decide +kernel
theorem dX4_daysToNextDeadline_45 : decode cX4_daysToNextDeadline 45 = .ok (.iload_n 1, 1) := by decide +kernel
theorem dX4_daysToNextDeadline_46 : decode cX4_daysToNextDeadline 46 = .ok (.iconst (-1), 1) := by decide +kernel
theorem dX4_daysToNextDeadline_47 : decode cX4_daysToNextDeadline 47 = .ok (.if_icmp .ne 8, 3) := by decide +kernel
theorem dX4_daysToNextDeadline_50 : decode cX4_daysToNextDeadline 50 = .ok (.iload 6, 2) := by decide +kernel
theorem dX4_daysToNextDeadline_52 : decode cX4_daysToNextDeadline 52 = .ok (.goto 9, 3) := by decide +kernel
theorem dX4_daysToNextDeadline_55 : decode cX4_daysToNextDeadline 55 = .ok (.iload_n 1, 1) := by decide +kernel
theorem dX4_daysToNextDeadline_56 : decode cX4_daysToNextDeadline 56 = .ok (.iload 6, 2) := by decide +kernel
theorem dX4_daysToNextDeadline_58 : decode cX4_daysToNextDeadline 58 = .ok (.invokestatic 193, 3) := by decide +kernel
theorem dX4_daysToNextDeadline_61 : decode cX4_daysToNextDeadline 61 = .ok (.istore_n 1, 1) := by decide +kernel
theorem dX4_daysToNextDeadline_62 : decode cX4_daysToNextDeadline 62 = .ok (.iinc 4 1, 3) := by decide +kernel
theorem dX4_daysToNextDeadline_65 : decode cX4_daysToNextDeadline 65 = .ok (.goto (-52), 3) := by decide +kernel
theorem dX4_daysToNextDeadline_68 : decode cX4_daysToNextDeadline 68 = .ok (.iload_n 1, 1) := by decide +kernel
theorem dX4_daysToNextDeadline_69 : decode cX4_daysToNextDeadline 69 = .ok (.ireturn, 1) := by decide +kernel
theorem dX4_placeInLine_0 : decode cX4_placeInLine 0 = .ok (.iconst 0, 1) := by decide +kernel
theorem dX4_placeInLine_1 : decode cX4_placeInLine 1 = .ok (.istore_n 2, 1) := by decide +kernel
theorem dX4_placeInLine_2 : decode cX4_placeInLine 2 = .ok (.iload_n 2, 1) := by decide +kernel
theorem dX4_placeInLine_3 : decode cX4_placeInLine 3 = .ok (.aload_n 0, 1) := by decide +kernel
theorem dX4_placeInLine_4 : decode cX4_placeInLine 4 = .ok (.getfield 42, 3) := by decide +kernel
theorem dX4_placeInLine_7 : decode cX4_placeInLine 7 = .ok (.if_icmp .ge 24, 3) := by decide +kernel
theorem dX4_placeInLine_10 : decode cX4_placeInLine 10 = .ok (.aload_n 0, 1) := by decide +kernel
theorem dX4_placeInLine_11 : decode cX4_placeInLine 11 = .ok (.getfield 27, 3) := by decide +kernel
theorem dX4_placeInLine_14 : decode cX4_placeInLine 14 = .ok (.iload_n 2, 1) := by decide +kernel
theorem dX4_placeInLine_15 : decode cX4_placeInLine 15 = .ok (.iaload, 1) := by decide +kernel
theorem dX4_placeInLine_16 : decode cX4_placeInLine 16 = .ok (.aload_n 1, 1) := by decide +kernel
theorem dX4_placeInLine_17 : decode cX4_placeInLine 17 = .ok (.getfield 186, 3) := by decide +kernel
theorem dX4_placeInLine_20 : decode cX4_placeInLine 20 = .ok (.if_icmp .ne 5, 3) := by decide +kernel
theorem dX4_placeInLine_23 : decode cX4_placeInLine 23 = .ok (.iload_n 2, 1) := by decide +kernel
theorem dX4_placeInLine_24 : decode cX4_placeInLine 24 = .ok (.ireturn, 1) := by decide +kernel
theorem dX4_placeInLine_25 : decode cX4_placeInLine 25 = .ok (.iinc 2 1, 3) := by decide +kernel
theorem dX4_placeInLine_28 : decode cX4_placeInLine 28 = .ok (.goto (-26), 3) := by decide +kernel
theorem dX4_placeInLine_31 : decode cX4_placeInLine 31 = .ok (.iconst (-1), 1) := by decide +kernel
theorem dX4_placeInLine_32 : decode cX4_placeInLine 32 = .ok (.ireturn, 1) := by decide +kernel
theorem dX4_queueUp_0 : decode cX4_queueUp 0 = .ok (.aload_n 0, 1) := by decide +kernel
theorem dX4_queueUp_1 : decode cX4_queueUp 1 = .ok (.aload_n 1, 1) := by decide +kernel
theorem dX4_queueUp_2 : decode cX4_queueUp 2 = .ok (.invokevirtual 196, 3) := by decide +kernel
theorem dX4_queueUp_5 : decode cX4_queueUp 5 = .ok (.iconst (-1), 1) := by decide +kernel
theorem dX4_queueUp_6 : decode cX4_queueUp 6 = .ok (.if_icmp .ne 35, 3) := by decide +kernel
theorem dX4_queueUp_9 : decode cX4_queueUp 9 = .ok (.aload_n 0, 1) := by decide +kernel
theorem dX4_queueUp_10 : decode cX4_queueUp 10 = .ok (.getfield 42, 3) := by decide +kernel
theorem dX4_queueUp_13 : decode cX4_queueUp 13 = .ok (.bipush 8, 2) := by decide +kernel
theorem dX4_queueUp_15 : decode cX4_queueUp 15 = .ok (.if_icmp .ge 26, 3) := by decide +kernel
theorem dX4_queueUp_18 : decode cX4_queueUp 18 = .ok (.aload_n 0, 1) := by decide +kernel
theorem dX4_queueUp_19 : decode cX4_queueUp 19 = .ok (.getfield 27, 3) := by decide +kernel
theorem dX4_queueUp_22 : decode cX4_queueUp 22 = .ok (.aload_n 0, 1) := by decide +kernel
theorem dX4_queueUp_23 : decode cX4_queueUp 23 = .ok (.getfield 42, 3) := by decide +kernel
theorem dX4_queueUp_26 : decode cX4_queueUp 26 = .ok (.aload_n 1, 1) := by decide +kernel
theorem dX4_queueUp_27 : decode cX4_queueUp 27 = .ok (.getfield 186, 3) := by decide +kernel
theorem dX4_queueUp_30 : decode cX4_queueUp 30 = .ok (.iastore, 1) := by decide +kernel
theorem dX4_queueUp_31 : decode cX4_queueUp 31 = .ok (.aload_n 0, 1) := by decide +kernel
theorem dX4_queueUp_32 : decode cX4_queueUp 32 = .ok (.dup, 1) := by decide +kernel
theorem dX4_queueUp_33 : decode cX4_queueUp 33 = .ok (.getfield 42, 3) := by decide +kernel
theorem dX4_queueUp_36 : decode cX4_queueUp 36 = .ok (.iconst 1, 1) := by decide +kernel
theorem dX4_queueUp_37 : decode cX4_queueUp 37 = .ok (.iadd, 1) := by decide +kernel
theorem dX4_queueUp_38 : decode cX4_queueUp 38 = .ok (.putfield 42, 3) := by decide +kernel
theorem dX4_queueUp_41 : decode cX4_queueUp 41 = .ok (.return_, 1) := by decide +kernel
theorem dX4_serveLine_0 : decode cX4_serveLine 0 = .ok (.iconst 0, 1) := by decide +kernel
theorem dX4_serveLine_1 : decode cX4_serveLine 1 = .ok (.istore_n 1, 1) := by decide +kernel
theorem dX4_serveLine_2 : decode cX4_serveLine 2 = .ok (.iconst 0, 1) := by decide +kernel
theorem dX4_serveLine_3 : decode cX4_serveLine 3 = .ok (.istore_n 2, 1) := by decide +kernel
theorem dX4_serveLine_4 : decode cX4_serveLine 4 = .ok (.iload_n 2, 1) := by decide +kernel
theorem dX4_serveLine_5 : decode cX4_serveLine 5 = .ok (.aload_n 0, 1) := by decide +kernel
theorem dX4_serveLine_6 : decode cX4_serveLine 6 = .ok (.getfield 42, 3) := by decide +kernel
theorem dX4_serveLine_9 : decode cX4_serveLine 9 = .ok (.if_icmp .ge 91, 3) := by decide +kernel
theorem dX4_serveLine_12 : decode cX4_serveLine 12 = .ok (.aload_n 0, 1) := by decide +kernel
theorem dX4_serveLine_13 : decode cX4_serveLine 13 = .ok (.getfield 27, 3) := by decide +kernel
theorem dX4_serveLine_16 : decode cX4_serveLine 16 = .ok (.iload_n 2, 1) := by decide +kernel
theorem dX4_serveLine_17 : decode cX4_serveLine 17 = .ok (.iaload, 1) := by decide +kernel
theorem dX4_serveLine_18 : decode cX4_serveLine 18 = .ok (.istore_n 3, 1) := by decide +kernel
theorem dX4_serveLine_19 : decode cX4_serveLine 19 = .ok (.iload_n 3, 1) := by decide +kernel
theorem dX4_serveLine_20 : decode cX4_serveLine 20 = .ok (.aload_n 0, 1) := by decide +kernel
theorem dX4_serveLine_21 : decode cX4_serveLine 21 = .ok (.getfield 39, 3) := by decide +kernel
theorem dX4_serveLine_24 : decode cX4_serveLine 24 = .ok (.invokestatic 199, 3) := by decide +kernel
theorem dX4_serveLine_27 : decode cX4_serveLine 27 = .ok (.ifCond .eq 16, 3) := by decide +kernel
theorem dX4_serveLine_30 : decode cX4_serveLine 30 = .ok (.aload_n 0, 1) := by decide +kernel
theorem dX4_serveLine_31 : decode cX4_serveLine 31 = .ok (.aload_n 0, 1) := by decide +kernel
theorem dX4_serveLine_32 : decode cX4_serveLine 32 = .ok (.getfield 22, 3) := by decide +kernel
theorem dX4_serveLine_35 : decode cX4_serveLine 35 = .ok (.iload_n 3, 1) := by decide +kernel
theorem dX4_serveLine_36 : decode cX4_serveLine 36 = .ok (.aaload, 1) := by decide +kernel
theorem dX4_serveLine_37 : decode cX4_serveLine 37 = .ok (.invokevirtual 203, 3) := by decide +kernel
theorem dX4_serveLine_40 : decode cX4_serveLine 40 = .ok (.goto 4, 3) := by decide +kernel
theorem dX4_serveLine_43 : decode cX4_serveLine 43 = .ok (.iconst (-1), 1) := by decide +kernel
theorem dX4_serveLine_44 : decode cX4_serveLine 44 = .ok (.istore 4, 2) := by decide +kernel
theorem dX4_serveLine_46 : decode cX4_serveLine 46 = .ok (.iload 4, 2) := by decide +kernel
theorem dX4_serveLine_48 : decode cX4_serveLine 48 = .ok (.iconst (-1), 1) := by decide +kernel
theorem dX4_serveLine_49 : decode cX4_serveLine 49 = .ok (.if_icmp .ne 15, 3) := by decide +kernel
theorem dX4_serveLine_52 : decode cX4_serveLine 52 = .ok (.aload_n 0, 1) := by decide +kernel
theorem dX4_serveLine_53 : decode cX4_serveLine 53 = .ok (.getfield 27, 3) := by decide +kernel
theorem dX4_serveLine_56 : decode cX4_serveLine 56 = .ok (.iload_n 2, 1) := by decide +kernel
theorem dX4_serveLine_57 : decode cX4_serveLine 57 = .ok (.iload_n 1, 1) := by decide +kernel
theorem dX4_serveLine_58 : decode cX4_serveLine 58 = .ok (.isub, 1) := by decide +kernel
theorem dX4_serveLine_59 : decode cX4_serveLine 59 = .ok (.iload_n 3, 1) := by decide +kernel
theorem dX4_serveLine_60 : decode cX4_serveLine 60 = .ok (.iastore, 1) := by decide +kernel
theorem dX4_serveLine_61 : decode cX4_serveLine 61 = .ok (.goto 33, 3) := by decide +kernel
theorem dX4_serveLine_64 : decode cX4_serveLine 64 = .ok (.aload_n 0, 1) := by decide +kernel
theorem dX4_serveLine_65 : decode cX4_serveLine 65 = .ok (.getfield 22, 3) := by decide +kernel
theorem dX4_serveLine_68 : decode cX4_serveLine 68 = .ok (.iload_n 3, 1) := by decide +kernel
theorem dX4_serveLine_69 : decode cX4_serveLine 69 = .ok (.aaload, 1) := by decide +kernel
theorem dX4_serveLine_70 : decode cX4_serveLine 70 = .ok (.iload 4, 2) := by decide +kernel
theorem dX4_serveLine_72 : decode cX4_serveLine 72 = .ok (.bipush 10, 2) := by decide +kernel
theorem dX4_serveLine_74 : decode cX4_serveLine 74 = .ok (.irem, 1) := by decide +kernel
theorem dX4_serveLine_75 : decode cX4_serveLine 75 = .ok (.iload 4, 2) := by decide +kernel
theorem dX4_serveLine_77 : decode cX4_serveLine 77 = .ok (.bipush 100, 2) := by decide +kernel
theorem dX4_serveLine_79 : decode cX4_serveLine 79 = .ok (.idiv, 1) := by decide +kernel
theorem dX4_serveLine_80 : decode cX4_serveLine 80 = .ok (.iload 4, 2) := by decide +kernel
theorem dX4_serveLine_82 : decode cX4_serveLine 82 = .ok (.bipush 10, 2) := by decide +kernel
theorem dX4_serveLine_84 : decode cX4_serveLine 84 = .ok (.idiv, 1) := by decide +kernel
theorem dX4_serveLine_85 : decode cX4_serveLine 85 = .ok (.bipush 10, 2) := by decide +kernel
theorem dX4_serveLine_87 : decode cX4_serveLine 87 = .ok (.irem, 1) := by decide +kernel
theorem dX4_serveLine_88 : decode cX4_serveLine 88 = .ok (.invokevirtual 206, 3) := by decide +kernel
theorem dX4_serveLine_91 : decode cX4_serveLine 91 = .ok (.iinc 1 1, 3) := by decide +kernel
theorem dX4_serveLine_94 : decode cX4_serveLine 94 = .ok (.iinc 2 1, 3) := by decide +kernel
theorem dX4_serveLine_97 : decode cX4_serveLine 97 = .ok (.goto (-93), 3) := by decide +kernel
theorem dX4_serveLine_100 : decode cX4_serveLine 100 = .ok (.aload_n 0, 1) := by decide +kernel
theorem dX4_serveLine_101 : decode cX4_serveLine 101 = .ok (.dup, 1) := by decide +kernel
theorem dX4_serveLine_102 : decode cX4_serveLine 102 = .ok (.getfield 42, 3) := by decide +kernel
theorem dX4_serveLine_105 : decode cX4_serveLine 105 = .ok (.iload_n 1, 1) := by decide +kernel
theorem dX4_serveLine_106 : decode cX4_serveLine 106 = .ok (.isub, 1) := by decide +kernel
theorem dX4_serveLine_107 : decode cX4_serveLine 107 = .ok (.putfield 42, 3) := by decide +kernel
theorem dX4_serveLine_110 : decode cX4_serveLine 110 = .ok (.iload_n 1, 1) := by decide +kernel
theorem dX4_serveLine_111 : decode cX4_serveLine 111 = .ok (.ireturn, 1) := by decide +kernel
theorem dX4_canSpend_0 : decode cX4_canSpend 0 = .ok (.iload_n 1, 1) := by decide +kernel
theorem dX4_canSpend_1 : decode cX4_canSpend 1 = .ok (.iconst 1, 1) := by decide +kernel
theorem dX4_canSpend_2 : decode cX4_canSpend 2 = .ok (.if_icmp .lt 25, 3) := by decide +kernel
theorem dX4_canSpend_5 : decode cX4_canSpend 5 = .ok (.iload_n 1, 1) := by decide +kernel
theorem dX4_canSpend_6 : decode cX4_canSpend 6 = .ok (.bipush 99, 2) := by decide +kernel
theorem dX4_canSpend_8 : decode cX4_canSpend 8 = .ok (.if_icmp .gt 19, 3) := by decide +kernel
theorem dX4_canSpend_11 : decode cX4_canSpend 11 = .ok (.aload_n 0, 1) := by decide +kernel
theorem dX4_canSpend_12 : decode cX4_canSpend 12 = .ok (.getfield 45, 3) := by decide +kernel
theorem dX4_canSpend_15 : decode cX4_canSpend 15 = .ok (.iload_n 1, 1) := by decide +kernel
theorem dX4_canSpend_16 : decode cX4_canSpend 16 = .ok (.iadd, 1) := by decide +kernel
theorem dX4_canSpend_17 : decode cX4_canSpend 17 = .ok (.sipush 400, 3) := by decide +kernel
theorem dX4_canSpend_20 : decode cX4_canSpend 20 = .ok (.if_icmp .gt 7, 3) := by decide +kernel
theorem dX4_canSpend_23 : decode cX4_canSpend 23 = .ok (.iconst 1, 1) := by decide +kernel
theorem dX4_canSpend_24 : decode cX4_canSpend 24 = .ok (.goto 4, 3) := by decide +kernel
theorem dX4_canSpend_27 : decode cX4_canSpend 27 = .ok (.iconst 0, 1) := by decide +kernel
theorem dX4_canSpend_28 : decode cX4_canSpend 28 = .ok (.ireturn, 1) := by decide +kernel
theorem dX4_spend_0 : decode cX4_spend 0 = .ok (.iconst 0, 1) := by decide +kernel
theorem dX4_spend_1 : decode cX4_spend 1 = .ok (.istore_n 2, 1) := by decide +kernel
theorem dX4_spend_2 : decode cX4_spend 2 = .ok (.aload_n 0, 1) := by decide +kernel
theorem dX4_spend_3 : decode cX4_spend 3 = .ok (.dup, 1) := by decide +kernel
theorem dX4_spend_4 : decode cX4_spend 4 = .ok (.getfield 45, 3) := by decide +kernel
theorem dX4_spend_7 : decode cX4_spend 7 = .ok (.iload_n 1, 1) := by decide +kernel
theorem dX4_spend_8 : decode cX4_spend 8 = .ok (.iadd, 1) := by decide +kernel
theorem dX4_spend_9 : decode cX4_spend 9 = .ok (.putfield 45, 3) := by decide +kernel
theorem dX4_spend_12 : decode cX4_spend 12 = .ok (.aload_n 0, 1) := by decide +kernel
theorem dX4_spend_13 : decode cX4_spend 13 = .ok (.getfield 22, 3) := by decide +kernel
theorem dX4_spend_16 : decode cX4_spend 16 = .ok (.astore_n 3, 1) := by decide +kernel
theorem dX4_spend_17 : decode cX4_spend 17 = .ok (.aload_n 3, 1) := by decide +kernel
theorem dX4_spend_18 : decode cX4_spend 18 = .ok (.arraylength, 1) := by decide +kernel
theorem dX4_spend_19 : decode cX4_spend 19 = .ok (.istore 4, 2) := by decide +kernel
theorem dX4_spend_21 : decode cX4_spend 21 = .ok (.iconst 0, 1) := by decide +kernel
theorem dX4_spend_22 : decode cX4_spend 22 = .ok (.istore 5, 2) := by decide +kernel
theorem dX4_spend_24 : decode cX4_spend 24 = .ok (.iload 5, 2) := by decide +kernel
theorem dX4_spend_26 : decode cX4_spend 26 = .ok (.iload 4, 2) := by decide +kernel
theorem dX4_spend_28 : decode cX4_spend 28 = .ok (.if_icmp .ge 43, 3) := by decide +kernel
theorem dX4_spend_31 : decode cX4_spend 31 = .ok (.aload_n 3, 1) := by decide +kernel
theorem dX4_spend_32 : decode cX4_spend 32 = .ok (.iload 5, 2) := by decide +kernel
theorem dX4_spend_34 : decode cX4_spend 34 = .ok (.aaload, 1) := by decide +kernel
theorem dX4_spend_35 : decode cX4_spend 35 = .ok (.astore 6, 2) := by decide +kernel
theorem dX4_spend_37 : decode cX4_spend 37 = .ok (.aload 6, 2) := by decide +kernel
theorem dX4_spend_39 : decode cX4_spend 39 = .ok (.invokevirtual 187, 3) := by decide +kernel
theorem dX4_spend_42 : decode cX4_spend 42 = .ok (.ifCond .eq 23, 3) := by decide +kernel
theorem dX4_spend_45 : decode cX4_spend 45 = .ok (.aload 6, 2) := by decide +kernel
theorem dX4_spend_47 : decode cX4_spend 47 = .ok (.invokevirtual 190, 3) := by decide +kernel
theorem dX4_spend_50 : decode cX4_spend 50 = .ok (.aload_n 0, 1) := by decide +kernel
theorem dX4_spend_51 : decode cX4_spend 51 = .ok (.getfield 45, 3) := by decide +kernel
theorem dX4_spend_54 : decode cX4_spend 54 = .ok (.if_icmp .ge 11, 3) := by decide +kernel
theorem dX4_spend_57 : decode cX4_spend 57 = .ok (.aload 6, 2) := by decide +kernel
theorem dX4_spend_59 : decode cX4_spend 59 = .ok (.invokevirtual 157, 3) := by decide +kernel
theorem dX4_spend_62 : decode cX4_spend 62 = .ok (.iinc 2 1, 3) := by decide +kernel
theorem dX4_spend_65 : decode cX4_spend 65 = .ok (.iinc 5 1, 3) := by decide +kernel
theorem dX4_spend_68 : decode cX4_spend 68 = .ok (.goto (-44), 3) := by decide +kernel
theorem dX4_spend_71 : decode cX4_spend 71 = .ok (.aload_n 0, 1) := by decide +kernel
theorem dX4_spend_72 : decode cX4_spend 72 = .ok (.dup, 1) := by decide +kernel
theorem dX4_spend_73 : decode cX4_spend 73 = .ok (.getfield 48, 3) := by decide +kernel
theorem dX4_spend_76 : decode cX4_spend 76 = .ok (.iload_n 2, 1) := by decide +kernel
theorem dX4_spend_77 : decode cX4_spend 77 = .ok (.iadd, 1) := by decide +kernel
theorem dX4_spend_78 : decode cX4_spend 78 = .ok (.putfield 48, 3) := by decide +kernel
theorem dX4_spend_81 : decode cX4_spend 81 = .ok (.iload_n 2, 1) := by decide +kernel
theorem dX4_spend_82 : decode cX4_spend 82 = .ok (.ireturn, 1) := by decide +kernel
theorem dX4_placedCount_0 : decode cX4_placedCount 0 = .ok (.iconst 0, 1) := by decide +kernel
theorem dX4_placedCount_1 : decode cX4_placedCount 1 = .ok (.istore_n 1, 1) := by decide +kernel
theorem dX4_placedCount_2 : decode cX4_placedCount 2 = .ok (.aload_n 0, 1) := by decide +kernel
theorem dX4_placedCount_3 : decode cX4_placedCount 3 = .ok (.getfield 22, 3) := by decide +kernel
theorem dX4_placedCount_6 : decode cX4_placedCount 6 = .ok (.astore_n 2, 1) := by decide +kernel
theorem dX4_placedCount_7 : decode cX4_placedCount 7 = .ok (.aload_n 2, 1) := by decide +kernel
theorem dX4_placedCount_8 : decode cX4_placedCount 8 = .ok (.arraylength, 1) := by decide +kernel
theorem dX4_placedCount_9 : decode cX4_placedCount 9 = .ok (.istore_n 3, 1) := by decide +kernel
theorem dX4_placedCount_10 : decode cX4_placedCount 10 = .ok (.iconst 0, 1) := by decide +kernel
theorem dX4_placedCount_11 : decode cX4_placedCount 11 = .ok (.istore 4, 2) := by decide +kernel
theorem dX4_placedCount_13 : decode cX4_placedCount 13 = .ok (.iload 4, 2) := by decide +kernel
theorem dX4_placedCount_15 : decode cX4_placedCount 15 = .ok (.iload_n 3, 1) := by decide +kernel
theorem dX4_placedCount_16 : decode cX4_placedCount 16 = .ok (.if_icmp .ge 31, 3) := by decide +kernel
theorem dX4_placedCount_19 : decode cX4_placedCount 19 = .ok (.aload_n 2, 1) := by decide +kernel
theorem dX4_placedCount_20 : decode cX4_placedCount 20 = .ok (.iload 4, 2) := by decide +kernel
theorem dX4_placedCount_22 : decode cX4_placedCount 22 = .ok (.aaload, 1) := by decide +kernel
theorem dX4_placedCount_23 : decode cX4_placedCount 23 = .ok (.astore 5, 2) := by decide +kernel
theorem dX4_placedCount_25 : decode cX4_placedCount 25 = .ok (.iload_n 1, 1) := by decide +kernel
theorem dX4_placedCount_26 : decode cX4_placedCount 26 = .ok (.aload 5, 2) := by decide +kernel
theorem dX4_placedCount_28 : decode cX4_placedCount 28 = .ok (.invokevirtual 187, 3) := by decide +kernel
theorem dX4_placedCount_31 : decode cX4_placedCount 31 = .ok (.ifCond .eq 7, 3) := by decide +kernel
theorem dX4_placedCount_34 : decode cX4_placedCount 34 = .ok (.iconst 1, 1) := by decide +kernel
theorem dX4_placedCount_35 : decode cX4_placedCount 35 = .ok (.goto 4, 3) := by decide +kernel
theorem dX4_placedCount_38 : decode cX4_placedCount 38 = .ok (.iconst 0, 1) := by decide +kernel
theorem dX4_placedCount_39 : decode cX4_placedCount 39 = .ok (.iadd, 1) := by decide +kernel
theorem dX4_placedCount_40 : decode cX4_placedCount 40 = .ok (.istore_n 1, 1) := by decide +kernel
theorem dX4_placedCount_41 : decode cX4_placedCount 41 = .ok (.iinc 4 1, 3) := by decide +kernel
theorem dX4_placedCount_44 : decode cX4_placedCount 44 = .ok (.goto (-31), 3) := by decide +kernel
theorem dX4_placedCount_47 : decode cX4_placedCount 47 = .ok (.iload_n 1, 1) := by decide +kernel
theorem dX4_placedCount_48 : decode cX4_placedCount 48 = .ok (.ireturn, 1) := by decide +kernel
theorem dX4_defendedCount_0 : decode cX4_defendedCount 0 = .ok (.iconst 0, 1) := by decide +kernel
theorem dX4_defendedCount_1 : decode cX4_defendedCount 1 = .ok (.istore_n 1, 1) := by decide +kernel
theorem dX4_defendedCount_2 : decode cX4_defendedCount 2 = .ok (.aload_n 0, 1) := by decide +kernel
theorem dX4_defendedCount_3 : decode cX4_defendedCount 3 = .ok (.getfield 22, 3) := by decide +kernel
theorem dX4_defendedCount_6 : decode cX4_defendedCount 6 = .ok (.astore_n 2, 1) := by decide +kernel
theorem dX4_defendedCount_7 : decode cX4_defendedCount 7 = .ok (.aload_n 2, 1) := by decide +kernel
theorem dX4_defendedCount_8 : decode cX4_defendedCount 8 = .ok (.arraylength, 1) := by decide +kernel
theorem dX4_defendedCount_9 : decode cX4_defendedCount 9 = .ok (.istore_n 3, 1) := by decide +kernel
theorem dX4_defendedCount_10 : decode cX4_defendedCount 10 = .ok (.iconst 0, 1) := by decide +kernel
theorem dX4_defendedCount_11 : decode cX4_defendedCount 11 = .ok (.istore 4, 2) := by decide +kernel
theorem dX4_defendedCount_13 : decode cX4_defendedCount 13 = .ok (.iload 4, 2) := by decide +kernel
theorem dX4_defendedCount_15 : decode cX4_defendedCount 15 = .ok (.iload_n 3, 1) := by decide +kernel
theorem dX4_defendedCount_16 : decode cX4_defendedCount 16 = .ok (.if_icmp .ge 31, 3) := by decide +kernel
theorem dX4_defendedCount_19 : decode cX4_defendedCount 19 = .ok (.aload_n 2, 1) := by decide +kernel
theorem dX4_defendedCount_20 : decode cX4_defendedCount 20 = .ok (.iload 4, 2) := by decide +kernel
theorem dX4_defendedCount_22 : decode cX4_defendedCount 22 = .ok (.aaload, 1) := by decide +kernel
theorem dX4_defendedCount_23 : decode cX4_defendedCount 23 = .ok (.astore 5, 2) := by decide +kernel
theorem dX4_defendedCount_25 : decode cX4_defendedCount 25 = .ok (.iload_n 1, 1) := by decide +kernel
theorem dX4_defendedCount_26 : decode cX4_defendedCount 26 = .ok (.aload 5, 2) := by decide +kernel
theorem dX4_defendedCount_28 : decode cX4_defendedCount 28 = .ok (.invokevirtual 69, 3) := by decide +kernel
theorem dX4_defendedCount_31 : decode cX4_defendedCount 31 = .ok (.ifCond .eq 7, 3) := by decide +kernel
theorem dX4_defendedCount_34 : decode cX4_defendedCount 34 = .ok (.iconst 1, 1) := by decide +kernel
theorem dX4_defendedCount_35 : decode cX4_defendedCount 35 = .ok (.goto 4, 3) := by decide +kernel
theorem dX4_defendedCount_38 : decode cX4_defendedCount 38 = .ok (.iconst 0, 1) := by decide +kernel
theorem dX4_defendedCount_39 : decode cX4_defendedCount 39 = .ok (.iadd, 1) := by decide +kernel
theorem dX4_defendedCount_40 : decode cX4_defendedCount 40 = .ok (.istore_n 1, 1) := by decide +kernel
theorem dX4_defendedCount_41 : decode cX4_defendedCount 41 = .ok (.iinc 4 1, 3) := by decide +kernel
theorem dX4_defendedCount_44 : decode cX4_defendedCount 44 = .ok (.goto (-31), 3) := by decide +kernel
theorem dX4_defendedCount_47 : decode cX4_defendedCount 47 = .ok (.iload_n 1, 1) := by decide +kernel
theorem dX4_defendedCount_48 : decode cX4_defendedCount 48 = .ok (.ireturn, 1) := by decide +kernel
theorem dX4_memberSum_0 : decode cX4_memberSum 0 = .ok (.iconst 0, 1) := by decide +kernel
theorem dX4_memberSum_1 : decode cX4_memberSum 1 = .ok (.istore_n 1, 1) := by decide +kernel
theorem dX4_memberSum_2 : decode cX4_memberSum 2 = .ok (.aload_n 0, 1) := by decide +kernel
theorem dX4_memberSum_3 : decode cX4_memberSum 3 = .ok (.getfield 22, 3) := by decide +kernel
theorem dX4_memberSum_6 : decode cX4_memberSum 6 = .ok (.astore_n 2, 1) := by decide +kernel
theorem dX4_memberSum_7 : decode cX4_memberSum 7 = .ok (.aload_n 2, 1) := by decide +kernel
theorem dX4_memberSum_8 : decode cX4_memberSum 8 = .ok (.arraylength, 1) := by decide +kernel
theorem dX4_memberSum_9 : decode cX4_memberSum 9 = .ok (.istore_n 3, 1) := by decide +kernel
theorem dX4_memberSum_10 : decode cX4_memberSum 10 = .ok (.iconst 0, 1) := by decide +kernel
theorem dX4_memberSum_11 : decode cX4_memberSum 11 = .ok (.istore 4, 2) := by decide +kernel
theorem dX4_memberSum_13 : decode cX4_memberSum 13 = .ok (.iload 4, 2) := by decide +kernel
theorem dX4_memberSum_15 : decode cX4_memberSum 15 = .ok (.iload_n 3, 1) := by decide +kernel
theorem dX4_memberSum_16 : decode cX4_memberSum 16 = .ok (.if_icmp .ge 23, 3) := by decide +kernel
theorem dX4_memberSum_19 : decode cX4_memberSum 19 = .ok (.aload_n 2, 1) := by decide +kernel
theorem dX4_memberSum_20 : decode cX4_memberSum 20 = .ok (.iload 4, 2) := by decide +kernel
theorem dX4_memberSum_22 : decode cX4_memberSum 22 = .ok (.aaload, 1) := by decide +kernel
theorem dX4_memberSum_23 : decode cX4_memberSum 23 = .ok (.astore 5, 2) := by decide +kernel
theorem dX4_memberSum_25 : decode cX4_memberSum 25 = .ok (.iload_n 1, 1) := by decide +kernel
theorem dX4_memberSum_26 : decode cX4_memberSum 26 = .ok (.aload 5, 2) := by decide +kernel
theorem dX4_memberSum_28 : decode cX4_memberSum 28 = .ok (.invokevirtual 210, 3) := by decide +kernel
theorem dX4_memberSum_31 : decode cX4_memberSum 31 = .ok (.iadd, 1) := by decide +kernel
theorem dX4_memberSum_32 : decode cX4_memberSum 32 = .ok (.istore_n 1, 1) := by decide +kernel
theorem dX4_memberSum_33 : decode cX4_memberSum 33 = .ok (.iinc 4 1, 3) := by decide +kernel
theorem dX4_memberSum_36 : decode cX4_memberSum 36 = .ok (.goto (-23), 3) := by decide +kernel
theorem dX4_memberSum_39 : decode cX4_memberSum 39 = .ok (.iload_n 1, 1) := by decide +kernel
theorem dX4_memberSum_40 : decode cX4_memberSum 40 = .ok (.ireturn, 1) := by decide +kernel
theorem dX4_quorumCount_0 : decode cX4_quorumCount 0 = .ok (.iconst 0, 1) := by decide +kernel
theorem dX4_quorumCount_1 : decode cX4_quorumCount 1 = .ok (.istore_n 1, 1) := by decide +kernel
theorem dX4_quorumCount_2 : decode cX4_quorumCount 2 = .ok (.aload_n 0, 1) := by decide +kernel
theorem dX4_quorumCount_3 : decode cX4_quorumCount 3 = .ok (.getfield 22, 3) := by decide +kernel
theorem dX4_quorumCount_6 : decode cX4_quorumCount 6 = .ok (.astore_n 2, 1) := by decide +kernel
theorem dX4_quorumCount_7 : decode cX4_quorumCount 7 = .ok (.aload_n 2, 1) := by decide +kernel
theorem dX4_quorumCount_8 : decode cX4_quorumCount 8 = .ok (.arraylength, 1) := by decide +kernel
theorem dX4_quorumCount_9 : decode cX4_quorumCount 9 = .ok (.istore_n 3, 1) := by decide +kernel
theorem dX4_quorumCount_10 : decode cX4_quorumCount 10 = .ok (.iconst 0, 1) := by decide +kernel
theorem dX4_quorumCount_11 : decode cX4_quorumCount 11 = .ok (.istore 4, 2) := by decide +kernel
theorem dX4_quorumCount_13 : decode cX4_quorumCount 13 = .ok (.iload 4, 2) := by decide +kernel
theorem dX4_quorumCount_15 : decode cX4_quorumCount 15 = .ok (.iload_n 3, 1) := by decide +kernel
theorem dX4_quorumCount_16 : decode cX4_quorumCount 16 = .ok (.if_icmp .ge 37, 3) := by decide +kernel
theorem dX4_quorumCount_19 : decode cX4_quorumCount 19 = .ok (.aload_n 2, 1) := by decide +kernel
theorem dX4_quorumCount_20 : decode cX4_quorumCount 20 = .ok (.iload 4, 2) := by decide +kernel
theorem dX4_quorumCount_22 : decode cX4_quorumCount 22 = .ok (.aaload, 1) := by decide +kernel
theorem dX4_quorumCount_23 : decode cX4_quorumCount 23 = .ok (.astore 5, 2) := by decide +kernel
theorem dX4_quorumCount_25 : decode cX4_quorumCount 25 = .ok (.iload_n 1, 1) := by decide +kernel
theorem dX4_quorumCount_26 : decode cX4_quorumCount 26 = .ok (.aload_n 0, 1) := by decide +kernel
theorem dX4_quorumCount_27 : decode cX4_quorumCount 27 = .ok (.aload 5, 2) := by decide +kernel
theorem dX4_quorumCount_29 : decode cX4_quorumCount 29 = .ok (.aload 5, 2) := by decide +kernel
theorem dX4_quorumCount_31 : decode cX4_quorumCount 31 = .ok (.getfield 73, 3) := by decide +kernel
theorem dX4_quorumCount_34 : decode cX4_quorumCount 34 = .ok (.invokevirtual 153, 3) := by decide +kernel
theorem dX4_quorumCount_37 : decode cX4_quorumCount 37 = .ok (.ifCond .eq 7, 3) := by decide +kernel
theorem dX4_quorumCount_40 : decode cX4_quorumCount 40 = .ok (.iconst 1, 1) := by decide +kernel
theorem dX4_quorumCount_41 : decode cX4_quorumCount 41 = .ok (.goto 4, 3) := by decide +kernel
theorem dX4_quorumCount_44 : decode cX4_quorumCount 44 = .ok (.iconst 0, 1) := by decide +kernel
theorem dX4_quorumCount_45 : decode cX4_quorumCount 45 = .ok (.iadd, 1) := by decide +kernel
theorem dX4_quorumCount_46 : decode cX4_quorumCount 46 = .ok (.istore_n 1, 1) := by decide +kernel
theorem dX4_quorumCount_47 : decode cX4_quorumCount 47 = .ok (.iinc 4 1, 3) := by decide +kernel
theorem dX4_quorumCount_50 : decode cX4_quorumCount 50 = .ok (.goto (-37), 3) := by decide +kernel
theorem dX4_quorumCount_53 : decode cX4_quorumCount 53 = .ok (.iload_n 1, 1) := by decide +kernel
theorem dX4_quorumCount_54 : decode cX4_quorumCount 54 = .ok (.ireturn, 1) := by decide +kernel
theorem dX4_conflictPairs_0 : decode cX4_conflictPairs 0 = .ok (.iconst 0, 1) := by decide +kernel
theorem dX4_conflictPairs_1 : decode cX4_conflictPairs 1 = .ok (.istore_n 1, 1) := by decide +kernel
theorem dX4_conflictPairs_2 : decode cX4_conflictPairs 2 = .ok (.aload_n 0, 1) := by decide +kernel
theorem dX4_conflictPairs_3 : decode cX4_conflictPairs 3 = .ok (.getfield 11, 3) := by decide +kernel
theorem dX4_conflictPairs_6 : decode cX4_conflictPairs 6 = .ok (.astore_n 2, 1) := by decide +kernel
theorem dX4_conflictPairs_7 : decode cX4_conflictPairs 7 = .ok (.aload_n 2, 1) := by decide +kernel
theorem dX4_conflictPairs_8 : decode cX4_conflictPairs 8 = .ok (.arraylength, 1) := by decide +kernel
theorem dX4_conflictPairs_9 : decode cX4_conflictPairs 9 = .ok (.istore_n 3, 1) := by decide +kernel
theorem dX4_conflictPairs_10 : decode cX4_conflictPairs 10 = .ok (.iconst 0, 1) := by decide +kernel
theorem dX4_conflictPairs_11 : decode cX4_conflictPairs 11 = .ok (.istore 4, 2) := by decide +kernel
theorem dX4_conflictPairs_13 : decode cX4_conflictPairs 13 = .ok (.iload 4, 2) := by decide +kernel
theorem dX4_conflictPairs_15 : decode cX4_conflictPairs 15 = .ok (.iload_n 3, 1) := by decide +kernel
theorem dX4_conflictPairs_16 : decode cX4_conflictPairs 16 = .ok (.if_icmp .ge 26, 3) := by decide +kernel
theorem dX4_conflictPairs_19 : decode cX4_conflictPairs 19 = .ok (.aload_n 2, 1) := by decide +kernel
theorem dX4_conflictPairs_20 : decode cX4_conflictPairs 20 = .ok (.iload 4, 2) := by decide +kernel
theorem dX4_conflictPairs_22 : decode cX4_conflictPairs 22 = .ok (.aaload, 1) := by decide +kernel
theorem dX4_conflictPairs_23 : decode cX4_conflictPairs 23 = .ok (.astore 5, 2) := by decide +kernel
theorem dX4_conflictPairs_25 : decode cX4_conflictPairs 25 = .ok (.iload_n 1, 1) := by decide +kernel
theorem dX4_conflictPairs_26 : decode cX4_conflictPairs 26 = .ok (.aload 5, 2) := by decide +kernel
theorem dX4_conflictPairs_28 : decode cX4_conflictPairs 28 = .ok (.getfield 127, 3) := by decide +kernel
theorem dX4_conflictPairs_31 : decode cX4_conflictPairs 31 = .ok (.invokestatic 110, 3) := by decide +kernel
theorem dX4_conflictPairs_34 : decode cX4_conflictPairs 34 = .ok (.iadd, 1) := by decide +kernel
theorem dX4_conflictPairs_35 : decode cX4_conflictPairs 35 = .ok (.istore_n 1, 1) := by decide +kernel
theorem dX4_conflictPairs_36 : decode cX4_conflictPairs 36 = .ok (.iinc 4 1, 3) := by decide +kernel
theorem dX4_conflictPairs_39 : decode cX4_conflictPairs 39 = .ok (.goto (-26), 3) := by decide +kernel
theorem dX4_conflictPairs_42 : decode cX4_conflictPairs 42 = .ok (.iload_n 1, 1) := by decide +kernel
theorem dX4_conflictPairs_43 : decode cX4_conflictPairs 43 = .ok (.iconst 2, 1) := by decide +kernel
theorem dX4_conflictPairs_44 : decode cX4_conflictPairs 44 = .ok (.idiv, 1) := by decide +kernel
theorem dX4_conflictPairs_45 : decode cX4_conflictPairs 45 = .ok (.ireturn, 1) := by decide +kernel
theorem dX4_loadSum_0 : decode cX4_loadSum 0 = .ok (.iconst 0, 1) := by decide +kernel
theorem dX4_loadSum_1 : decode cX4_loadSum 1 = .ok (.istore_n 1, 1) := by decide +kernel
theorem dX4_loadSum_2 : decode cX4_loadSum 2 = .ok (.aload_n 0, 1) := by decide +kernel
theorem dX4_loadSum_3 : decode cX4_loadSum 3 = .ok (.getfield 22, 3) := by decide +kernel
theorem dX4_loadSum_6 : decode cX4_loadSum 6 = .ok (.astore_n 2, 1) := by decide +kernel
theorem dX4_loadSum_7 : decode cX4_loadSum 7 = .ok (.aload_n 2, 1) := by decide +kernel
theorem dX4_loadSum_8 : decode cX4_loadSum 8 = .ok (.arraylength, 1) := by decide +kernel
theorem dX4_loadSum_9 : decode cX4_loadSum 9 = .ok (.istore_n 3, 1) := by decide +kernel
theorem dX4_loadSum_10 : decode cX4_loadSum 10 = .ok (.iconst 0, 1) := by decide +kernel
theorem dX4_loadSum_11 : decode cX4_loadSum 11 = .ok (.istore 4, 2) := by decide +kernel
theorem dX4_loadSum_13 : decode cX4_loadSum 13 = .ok (.iload 4, 2) := by decide +kernel
theorem dX4_loadSum_15 : decode cX4_loadSum 15 = .ok (.iload_n 3, 1) := by decide +kernel
theorem dX4_loadSum_16 : decode cX4_loadSum 16 = .ok (.if_icmp .ge 35, 3) := by decide +kernel
theorem dX4_loadSum_19 : decode cX4_loadSum 19 = .ok (.aload_n 2, 1) := by decide +kernel
theorem dX4_loadSum_20 : decode cX4_loadSum 20 = .ok (.iload 4, 2) := by decide +kernel
theorem dX4_loadSum_22 : decode cX4_loadSum 22 = .ok (.aaload, 1) := by decide +kernel
theorem dX4_loadSum_23 : decode cX4_loadSum 23 = .ok (.astore 5, 2) := by decide +kernel
theorem dX4_loadSum_25 : decode cX4_loadSum 25 = .ok (.iload_n 1, 1) := by decide +kernel
theorem dX4_loadSum_26 : decode cX4_loadSum 26 = .ok (.aload 5, 2) := by decide +kernel
theorem dX4_loadSum_28 : decode cX4_loadSum 28 = .ok (.invokevirtual 69, 3) := by decide +kernel
theorem dX4_loadSum_31 : decode cX4_loadSum 31 = .ok (.ifCond .eq 7, 3) := by decide +kernel
theorem dX4_loadSum_34 : decode cX4_loadSum 34 = .ok (.iconst 0, 1) := by decide +kernel
theorem dX4_loadSum_35 : decode cX4_loadSum 35 = .ok (.goto 8, 3) := by decide +kernel
theorem dX4_loadSum_38 : decode cX4_loadSum 38 = .ok (.aload 5, 2) := by decide +kernel
theorem dX4_loadSum_40 : decode cX4_loadSum 40 = .ok (.invokevirtual 210, 3) := by decide +kernel
theorem dX4_loadSum_43 : decode cX4_loadSum 43 = .ok (.iadd, 1) := by decide +kernel
theorem dX4_loadSum_44 : decode cX4_loadSum 44 = .ok (.istore_n 1, 1) := by decide +kernel
theorem dX4_loadSum_45 : decode cX4_loadSum 45 = .ok (.iinc 4 1, 3) := by decide +kernel
theorem dX4_loadSum_48 : decode cX4_loadSum 48 = .ok (.goto (-35), 3) := by decide +kernel
theorem dX4_loadSum_51 : decode cX4_loadSum 51 = .ok (.iload_n 1, 1) := by decide +kernel
theorem dX4_loadSum_52 : decode cX4_loadSum 52 = .ok (.ireturn, 1) := by decide +kernel
theorem dX4_doEntry_0 : decode cX4_doEntry 0 = .ok (.iload_n 1, 1) := by decide +kernel
theorem dX4_doEntry_1 : decode cX4_doEntry 1 = .ok (.bipush 100, 2) := by decide +kernel
theorem dX4_doEntry_3 : decode cX4_doEntry 3 = .ok (.if_icmp .ne 9, 3) := by decide +kernel
theorem dX4_doEntry_6 : decode cX4_doEntry 6 = .ok (.aload_n 0, 1) := by decide +kernel
theorem dX4_doEntry_7 : decode cX4_doEntry 7 = .ok (.iload_n 2, 1) := by decide +kernel
theorem dX4_doEntry_8 : decode cX4_doEntry 8 = .ok (.invokevirtual 213, 3) := by decide +kernel
theorem dX4_doEntry_11 : decode cX4_doEntry 11 = .ok (.ireturn, 1) := by decide +kernel
theorem dX4_doEntry_12 : decode cX4_doEntry 12 = .ok (.iload_n 2, 1) := by decide +kernel
theorem dX4_doEntry_13 : decode cX4_doEntry 13 = .ok (.aload_n 0, 1) := by decide +kernel
theorem dX4_doEntry_14 : decode cX4_doEntry 14 = .ok (.getfield 39, 3) := by decide +kernel
theorem dX4_doEntry_17 : decode cX4_doEntry 17 = .ok (.invokestatic 199, 3) := by decide +kernel
theorem dX4_doEntry_20 : decode cX4_doEntry 20 = .ok (.ifCond .ne 5, 3) := by decide +kernel
theorem dX4_doEntry_23 : decode cX4_doEntry 23 = .ok (.iconst (-1), 1) := by decide +kernel
theorem dX4_doEntry_24 : decode cX4_doEntry 24 = .ok (.ireturn, 1) := by decide +kernel
theorem dX4_doEntry_25 : decode cX4_doEntry 25 = .ok (.aload_n 0, 1) := by decide +kernel
theorem dX4_doEntry_26 : decode cX4_doEntry 26 = .ok (.getfield 22, 3) := by decide +kernel
theorem dX4_doEntry_29 : decode cX4_doEntry 29 = .ok (.iload_n 2, 1) := by decide +kernel
theorem dX4_doEntry_30 : decode cX4_doEntry 30 = .ok (.aaload, 1) := by decide +kernel
theorem dX4_doEntry_31 : decode cX4_doEntry 31 = .ok (.astore 6, 2) := by decide +kernel
theorem dX4_doEntry_33 : decode cX4_doEntry 33 = .ok (.iload_n 1, 1) := by decide +kernel
theorem dX4_doEntry_34 : decode cX4_doEntry 34 = .ok (.tableswitch 77 106 112 #[42, 77, 50, 77, 70, 77, 58], 42) := by decide +kernel
theorem dX4_doEntry_76 : decode cX4_doEntry 76 = .ok (.aload_n 0, 1) := by decide +kernel
theorem dX4_doEntry_77 : decode cX4_doEntry 77 = .ok (.aload 6, 2) := by decide +kernel
theorem dX4_doEntry_79 : decode cX4_doEntry 79 = .ok (.iload_n 3, 1) := by decide +kernel
theorem dX4_doEntry_80 : decode cX4_doEntry 80 = .ok (.invokevirtual 216, 3) := by decide +kernel
theorem dX4_doEntry_83 : decode cX4_doEntry 83 = .ok (.ireturn, 1) := by decide +kernel
theorem dX4_doEntry_84 : decode cX4_doEntry 84 = .ok (.aload_n 0, 1) := by decide +kernel
theorem dX4_doEntry_85 : decode cX4_doEntry 85 = .ok (.aload 6, 2) := by decide +kernel
theorem dX4_doEntry_87 : decode cX4_doEntry 87 = .ok (.iload_n 3, 1) := by decide +kernel
theorem dX4_doEntry_88 : decode cX4_doEntry 88 = .ok (.invokevirtual 219, 3) := by decide +kernel
theorem dX4_doEntry_91 : decode cX4_doEntry 91 = .ok (.ireturn, 1) := by decide +kernel
theorem dX4_doEntry_92 : decode cX4_doEntry 92 = .ok (.aload_n 0, 1) := by decide +kernel
theorem dX4_doEntry_93 : decode cX4_doEntry 93 = .ok (.aload 6, 2) := by decide +kernel
theorem dX4_doEntry_95 : decode cX4_doEntry 95 = .ok (.iload_n 3, 1) := by decide +kernel
theorem dX4_doEntry_96 : decode cX4_doEntry 96 = .ok (.iload 4, 2) := by decide +kernel
theorem dX4_doEntry_98 : decode cX4_doEntry 98 = .ok (.iload 5, 2) := by decide +kernel
theorem dX4_doEntry_100 : decode cX4_doEntry 100 = .ok (.invokevirtual 222, 3) := by decide +kernel
theorem dX4_doEntry_103 : decode cX4_doEntry 103 = .ok (.ireturn, 1) := by decide +kernel
theorem dX4_doEntry_104 : decode cX4_doEntry 104 = .ok (.aload_n 0, 1) := by decide +kernel
theorem dX4_doEntry_105 : decode cX4_doEntry 105 = .ok (.aload 6, 2) := by decide +kernel
theorem dX4_doEntry_107 : decode cX4_doEntry 107 = .ok (.invokevirtual 226, 3) := by decide +kernel
theorem dX4_doEntry_110 : decode cX4_doEntry 110 = .ok (.ireturn, 1) := by decide +kernel
theorem dX4_doEntry_111 : decode cX4_doEntry 111 = .ok (.iconst (-1), 1) := by decide +kernel
theorem dX4_doEntry_112 : decode cX4_doEntry 112 = .ok (.ireturn, 1) := by decide +kernel
theorem dX4_daysEntry_0 : decode cX4_daysEntry 0 = .ok (.aload_n 0, 1) := by decide +kernel
theorem dX4_daysEntry_1 : decode cX4_daysEntry 1 = .ok (.iload_n 1, 1) := by decide +kernel
theorem dX4_daysEntry_2 : decode cX4_daysEntry 2 = .ok (.invokevirtual 229, 3) := by decide +kernel
theorem dX4_daysEntry_5 : decode cX4_daysEntry 5 = .ok (.ifCond .ne 5, 3) := by decide +kernel
theorem dX4_daysEntry_8 : decode cX4_daysEntry 8 = .ok (.iconst (-1), 1) := by decide +kernel
theorem dX4_daysEntry_9 : decode cX4_daysEntry 9 = .ok (.ireturn, 1) := by decide +kernel
theorem dX4_daysEntry_10 : decode cX4_daysEntry 10 = .ok (.aload_n 0, 1) := by decide +kernel
theorem dX4_daysEntry_11 : decode cX4_daysEntry 11 = .ok (.iload_n 1, 1) := by decide +kernel
theorem dX4_daysEntry_12 : decode cX4_daysEntry 12 = .ok (.invokevirtual 232, 3) := by decide +kernel
theorem dX4_daysEntry_15 : decode cX4_daysEntry 15 = .ok (.pop, 1) := by decide +kernel
theorem dX4_daysEntry_16 : decode cX4_daysEntry 16 = .ok (.iconst 0, 1) := by decide +kernel
theorem dX4_daysEntry_17 : decode cX4_daysEntry 17 = .ok (.ireturn, 1) := by decide +kernel
theorem dX4_joinEntry_0 : decode cX4_joinEntry 0 = .ok (.iload_n 2, 1) := by decide +kernel
theorem dX4_joinEntry_1 : decode cX4_joinEntry 1 = .ok (.aload_n 0, 1) := by decide +kernel
theorem dX4_joinEntry_2 : decode cX4_joinEntry 2 = .ok (.getfield 35, 3) := by decide +kernel
theorem dX4_joinEntry_5 : decode cX4_joinEntry 5 = .ok (.invokestatic 199, 3) := by decide +kernel
theorem dX4_joinEntry_8 : decode cX4_joinEntry 8 = .ok (.ifCond .ne 5, 3) := by decide +kernel
theorem dX4_joinEntry_11 : decode cX4_joinEntry 11 = .ok (.iconst (-1), 1) := by decide +kernel
theorem dX4_joinEntry_12 : decode cX4_joinEntry 12 = .ok (.ireturn, 1) := by decide +kernel
theorem dX4_joinEntry_13 : decode cX4_joinEntry 13 = .ok (.aload_n 0, 1) := by decide +kernel
theorem dX4_joinEntry_14 : decode cX4_joinEntry 14 = .ok (.aload_n 1, 1) := by decide +kernel
theorem dX4_joinEntry_15 : decode cX4_joinEntry 15 = .ok (.aload_n 1, 1) := by decide +kernel
theorem dX4_joinEntry_16 : decode cX4_joinEntry 16 = .ok (.getfield 73, 3) := by decide +kernel
theorem dX4_joinEntry_19 : decode cX4_joinEntry 19 = .ok (.aload_n 0, 1) := by decide +kernel
theorem dX4_joinEntry_20 : decode cX4_joinEntry 20 = .ok (.getfield 11, 3) := by decide +kernel
theorem dX4_joinEntry_23 : decode cX4_joinEntry 23 = .ok (.iload_n 2, 1) := by decide +kernel
theorem dX4_joinEntry_24 : decode cX4_joinEntry 24 = .ok (.aaload, 1) := by decide +kernel
theorem dX4_joinEntry_25 : decode cX4_joinEntry 25 = .ok (.invokevirtual 149, 3) := by decide +kernel
theorem dX4_joinEntry_28 : decode cX4_joinEntry 28 = .ok (.istore_n 3, 1) := by decide +kernel
theorem dX4_joinEntry_29 : decode cX4_joinEntry 29 = .ok (.iload_n 3, 1) := by decide +kernel
theorem dX4_joinEntry_30 : decode cX4_joinEntry 30 = .ok (.ifCond .eq 5, 3) := by decide +kernel
theorem dX4_joinEntry_33 : decode cX4_joinEntry 33 = .ok (.iload_n 3, 1) := by decide +kernel
theorem dX4_joinEntry_34 : decode cX4_joinEntry 34 = .ok (.ireturn, 1) := by decide +kernel
theorem dX4_joinEntry_35 : decode cX4_joinEntry 35 = .ok (.aload_n 1, 1) := by decide +kernel
theorem dX4_joinEntry_36 : decode cX4_joinEntry 36 = .ok (.dup, 1) := by decide +kernel
theorem dX4_joinEntry_37 : decode cX4_joinEntry 37 = .ok (.getfield 73, 3) := by decide +kernel
theorem dX4_joinEntry_40 : decode cX4_joinEntry 40 = .ok (.aload_n 0, 1) := by decide +kernel
theorem dX4_joinEntry_41 : decode cX4_joinEntry 41 = .ok (.getfield 11, 3) := by decide +kernel
theorem dX4_joinEntry_44 : decode cX4_joinEntry 44 = .ok (.iload_n 2, 1) := by decide +kernel
theorem dX4_joinEntry_45 : decode cX4_joinEntry 45 = .ok (.aaload, 1) := by decide +kernel
theorem dX4_joinEntry_46 : decode cX4_joinEntry 46 = .ok (.invokevirtual 105, 3) := by decide +kernel
theorem dX4_joinEntry_49 : decode cX4_joinEntry 49 = .ok (.ior, 1) := by decide +kernel
theorem dX4_joinEntry_50 : decode cX4_joinEntry 50 = .ok (.putfield 73, 3) := by decide +kernel
theorem dX4_joinEntry_53 : decode cX4_joinEntry 53 = .ok (.iconst 0, 1) := by decide +kernel
theorem dX4_joinEntry_54 : decode cX4_joinEntry 54 = .ok (.ireturn, 1) := by decide +kernel
theorem dX4_leaveEntry_0 : decode cX4_leaveEntry 0 = .ok (.iload_n 2, 1) := by decide +kernel
theorem dX4_leaveEntry_1 : decode cX4_leaveEntry 1 = .ok (.aload_n 0, 1) := by decide +kernel
theorem dX4_leaveEntry_2 : decode cX4_leaveEntry 2 = .ok (.getfield 35, 3) := by decide +kernel
theorem dX4_leaveEntry_5 : decode cX4_leaveEntry 5 = .ok (.invokestatic 199, 3) := by decide +kernel
theorem dX4_leaveEntry_8 : decode cX4_leaveEntry 8 = .ok (.ifCond .eq 17, 3) := by decide +kernel
theorem dX4_leaveEntry_11 : decode cX4_leaveEntry 11 = .ok (.aload_n 0, 1) := by decide +kernel
theorem dX4_leaveEntry_12 : decode cX4_leaveEntry 12 = .ok (.aload_n 1, 1) := by decide +kernel
theorem dX4_leaveEntry_13 : decode cX4_leaveEntry 13 = .ok (.aload_n 0, 1) := by decide +kernel
theorem dX4_leaveEntry_14 : decode cX4_leaveEntry 14 = .ok (.getfield 11, 3) := by decide +kernel
theorem dX4_leaveEntry_17 : decode cX4_leaveEntry 17 = .ok (.iload_n 2, 1) := by decide +kernel
theorem dX4_leaveEntry_18 : decode cX4_leaveEntry 18 = .ok (.aaload, 1) := by decide +kernel
theorem dX4_leaveEntry_19 : decode cX4_leaveEntry 19 = .ok (.invokevirtual 235, 3) := by decide +kernel
theorem dX4_leaveEntry_22 : decode cX4_leaveEntry 22 = .ok (.ifCond .ne 5, 3) := by decide +kernel
theorem dX4_leaveEntry_25 : decode cX4_leaveEntry 25 = .ok (.iconst (-1), 1) := by decide +kernel
theorem dX4_leaveEntry_26 : decode cX4_leaveEntry 26 = .ok (.ireturn, 1) := by decide +kernel
theorem dX4_leaveEntry_27 : decode cX4_leaveEntry 27 = .ok (.aload_n 1, 1) := by decide +kernel
theorem dX4_leaveEntry_28 : decode cX4_leaveEntry 28 = .ok (.dup, 1) := by decide +kernel
theorem dX4_leaveEntry_29 : decode cX4_leaveEntry 29 = .ok (.getfield 73, 3) := by decide +kernel
theorem dX4_leaveEntry_32 : decode cX4_leaveEntry 32 = .ok (.aload_n 0, 1) := by decide +kernel
theorem dX4_leaveEntry_33 : decode cX4_leaveEntry 33 = .ok (.getfield 11, 3) := by decide +kernel
theorem dX4_leaveEntry_36 : decode cX4_leaveEntry 36 = .ok (.iload_n 2, 1) := by decide +kernel
theorem dX4_leaveEntry_37 : decode cX4_leaveEntry 37 = .ok (.aaload, 1) := by decide +kernel
theorem dX4_leaveEntry_38 : decode cX4_leaveEntry 38 = .ok (.invokevirtual 105, 3) := by decide +kernel
theorem dX4_leaveEntry_41 : decode cX4_leaveEntry 41 = .ok (.iconst (-1), 1) := by decide +kernel
theorem dX4_leaveEntry_42 : decode cX4_leaveEntry 42 = .ok (.ixor, 1) := by decide +kernel
theorem dX4_leaveEntry_43 : decode cX4_leaveEntry 43 = .ok (.iand, 1) := by decide +kernel
theorem dX4_leaveEntry_44 : decode cX4_leaveEntry 44 = .ok (.putfield 73, 3) := by decide +kernel
theorem dX4_leaveEntry_47 : decode cX4_leaveEntry 47 = .ok (.aload_n 0, 1) := by decide +kernel
theorem dX4_leaveEntry_48 : decode cX4_leaveEntry 48 = .ok (.aload_n 1, 1) := by decide +kernel
theorem dX4_leaveEntry_49 : decode cX4_leaveEntry 49 = .ok (.invokevirtual 239, 3) := by decide +kernel
theorem dX4_leaveEntry_52 : decode cX4_leaveEntry 52 = .ok (.pop, 1) := by decide +kernel
theorem dX4_leaveEntry_53 : decode cX4_leaveEntry 53 = .ok (.iconst 0, 1) := by decide +kernel
theorem dX4_leaveEntry_54 : decode cX4_leaveEntry 54 = .ok (.ireturn, 1) := by decide +kernel
theorem dX4_placeEntry_0 : decode cX4_placeEntry 0 = .ok (.iload_n 2, 1) := by decide +kernel
theorem dX4_placeEntry_1 : decode cX4_placeEntry 1 = .ok (.iconst 3, 1) := by decide +kernel
theorem dX4_placeEntry_2 : decode cX4_placeEntry 2 = .ok (.invokestatic 199, 3) := by decide +kernel
theorem dX4_placeEntry_5 : decode cX4_placeEntry 5 = .ok (.ifCond .eq 20, 3) := by decide +kernel
theorem dX4_placeEntry_8 : decode cX4_placeEntry 8 = .ok (.iload_n 3, 1) := by decide +kernel
theorem dX4_placeEntry_9 : decode cX4_placeEntry 9 = .ok (.invokestatic 243, 3) := by decide +kernel
theorem dX4_placeEntry_12 : decode cX4_placeEntry 12 = .ok (.ifCond .eq 13, 3) := by decide +kernel
theorem dX4_placeEntry_15 : decode cX4_placeEntry 15 = .ok (.iload 4, 2) := by decide +kernel
theorem dX4_placeEntry_17 : decode cX4_placeEntry 17 = .ok (.bipush 7, 2) := by decide +kernel
theorem dX4_placeEntry_19 : decode cX4_placeEntry 19 = .ok (.invokestatic 199, 3) := by decide +kernel
theorem dX4_placeEntry_22 : decode cX4_placeEntry 22 = .ok (.ifCond .ne 5, 3) := by decide +kernel
theorem dX4_placeEntry_25 : decode cX4_placeEntry 25 = .ok (.iconst (-1), 1) := by decide +kernel
theorem dX4_placeEntry_26 : decode cX4_placeEntry 26 = .ok (.ireturn, 1) := by decide +kernel
theorem dX4_placeEntry_27 : decode cX4_placeEntry 27 = .ok (.aload_n 0, 1) := by decide +kernel
theorem dX4_placeEntry_28 : decode cX4_placeEntry 28 = .ok (.aload_n 1, 1) := by decide +kernel
theorem dX4_placeEntry_29 : decode cX4_placeEntry 29 = .ok (.iload_n 2, 1) := by decide +kernel
theorem dX4_placeEntry_30 : decode cX4_placeEntry 30 = .ok (.iload_n 3, 1) := by decide +kernel
theorem dX4_placeEntry_31 : decode cX4_placeEntry 31 = .ok (.iload 4, 2) := by decide +kernel
theorem dX4_placeEntry_33 : decode cX4_placeEntry 33 = .ok (.invokevirtual 246, 3) := by decide +kernel
theorem dX4_placeEntry_36 : decode cX4_placeEntry 36 = .ok (.istore 5, 2) := by decide +kernel
theorem dX4_placeEntry_38 : decode cX4_placeEntry 38 = .ok (.iload 5, 2) := by decide +kernel
theorem dX4_placeEntry_40 : decode cX4_placeEntry 40 = .ok (.ifCond .eq 6, 3) := by decide +kernel
theorem dX4_placeEntry_43 : decode cX4_placeEntry 43 = .ok (.iload 5, 2) := by decide +kernel
theorem dX4_placeEntry_45 : decode cX4_placeEntry 45 = .ok (.ireturn, 1) := by decide +kernel
theorem dX4_placeEntry_46 : decode cX4_placeEntry 46 = .ok (.aload_n 1, 1) := by decide +kernel
theorem dX4_placeEntry_47 : decode cX4_placeEntry 47 = .ok (.iload_n 2, 1) := by decide +kernel
theorem dX4_placeEntry_48 : decode cX4_placeEntry 48 = .ok (.iload_n 3, 1) := by decide +kernel
theorem dX4_placeEntry_49 : decode cX4_placeEntry 49 = .ok (.iload 4, 2) := by decide +kernel
theorem dX4_placeEntry_51 : decode cX4_placeEntry 51 = .ok (.invokevirtual 206, 3) := by decide +kernel
theorem dX4_placeEntry_54 : decode cX4_placeEntry 54 = .ok (.iconst 0, 1) := by decide +kernel
theorem dX4_placeEntry_55 : decode cX4_placeEntry 55 = .ok (.ireturn, 1) := by decide +kernel
theorem dX4_nextEntry_0 : decode cX4_nextEntry 0 = .ok (.aload_n 0, 1) := by decide +kernel
theorem dX4_nextEntry_1 : decode cX4_nextEntry 1 = .ok (.aload_n 1, 1) := by decide +kernel
theorem dX4_nextEntry_2 : decode cX4_nextEntry 2 = .ok (.invokevirtual 249, 3) := by decide +kernel
theorem dX4_nextEntry_5 : decode cX4_nextEntry 5 = .ok (.ifCond .ne 5, 3) := by decide +kernel
theorem dX4_nextEntry_8 : decode cX4_nextEntry 8 = .ok (.iconst (-1), 1) := by decide +kernel
theorem dX4_nextEntry_9 : decode cX4_nextEntry 9 = .ok (.ireturn, 1) := by decide +kernel
theorem dX4_nextEntry_10 : decode cX4_nextEntry 10 = .ok (.aload_n 1, 1) := by decide +kernel
theorem dX4_nextEntry_11 : decode cX4_nextEntry 11 = .ok (.dup, 1) := by decide +kernel
theorem dX4_nextEntry_12 : decode cX4_nextEntry 12 = .ok (.getfield 177, 3) := by decide +kernel
theorem dX4_nextEntry_15 : decode cX4_nextEntry 15 = .ok (.iconst 1, 1) := by decide +kernel
theorem dX4_nextEntry_16 : decode cX4_nextEntry 16 = .ok (.iadd, 1) := by decide +kernel
theorem dX4_nextEntry_17 : decode cX4_nextEntry 17 = .ok (.putfield 177, 3) := by decide +kernel
theorem dX4_nextEntry_20 : decode cX4_nextEntry 20 = .ok (.iconst 0, 1) := by decide +kernel
theorem dX4_nextEntry_21 : decode cX4_nextEntry 21 = .ok (.ireturn, 1) := by decide +kernel
theorem dX5_init_0 : decode cX5_init 0 = .ok (.aload_n 0, 1) := by decide +kernel
theorem dX5_init_1 : decode cX5_init 1 = .ok (.invokespecial 3, 3) := by decide +kernel
theorem dX5_init_4 : decode cX5_init 4 = .ok (.aload_n 0, 1) := by decide +kernel
theorem dX5_init_5 : decode cX5_init 5 = .ok (.iload_n 1, 1) := by decide +kernel
theorem dX5_init_6 : decode cX5_init 6 = .ok (.putfield 9, 3) := by decide +kernel
theorem dX5_init_9 : decode cX5_init 9 = .ok (.aload_n 0, 1) := by decide +kernel
theorem dX5_init_10 : decode cX5_init 10 = .ok (.iconst (-1), 1) := by decide +kernel
theorem dX5_init_11 : decode cX5_init 11 = .ok (.putfield 15, 3) := by decide +kernel
theorem dX5_init_14 : decode cX5_init 14 = .ok (.aload_n 0, 1) := by decide +kernel
theorem dX5_init_15 : decode cX5_init 15 = .ok (.iconst (-1), 1) := by decide +kernel
theorem dX5_init_16 : decode cX5_init 16 = .ok (.putfield 18, 3) := by decide +kernel
theorem dX5_init_19 : decode cX5_init 19 = .ok (.aload_n 0, 1) := by decide +kernel
theorem dX5_init_20 : decode cX5_init 20 = .ok (.iconst (-1), 1) := by decide +kernel
theorem dX5_init_21 : decode cX5_init 21 = .ok (.putfield 21, 3) := by decide +kernel
theorem dX5_init_24 : decode cX5_init 24 = .ok (.aload_n 0, 1) := by decide +kernel
theorem dX5_init_25 : decode cX5_init 25 = .ok (.iconst (-1), 1) := by decide +kernel
theorem dX5_init_26 : decode cX5_init 26 = .ok (.putfield 24, 3) := by decide +kernel
theorem dX5_init_29 : decode cX5_init 29 = .ok (.return_, 1) := by decide +kernel
theorem dX5_set_0 : decode cX5_set 0 = .ok (.aload_n 0, 1) := by decide +kernel
theorem dX5_set_1 : decode cX5_set 1 = .ok (.iload_n 1, 1) := by decide +kernel
theorem dX5_set_2 : decode cX5_set 2 = .ok (.putfield 27, 3) := by decide +kernel
theorem dX5_set_5 : decode cX5_set 5 = .ok (.aload_n 0, 1) := by decide +kernel
theorem dX5_set_6 : decode cX5_set 6 = .ok (.iload_n 2, 1) := by decide +kernel
theorem dX5_set_7 : decode cX5_set 7 = .ok (.putfield 30, 3) := by decide +kernel
theorem dX5_set_10 : decode cX5_set 10 = .ok (.aload_n 0, 1) := by decide +kernel
theorem dX5_set_11 : decode cX5_set 11 = .ok (.iload_n 3, 1) := by decide +kernel
theorem dX5_set_12 : decode cX5_set 12 = .ok (.putfield 33, 3) := by decide +kernel
theorem dX5_set_15 : decode cX5_set 15 = .ok (.aload_n 0, 1) := by decide +kernel
theorem dX5_set_16 : decode cX5_set 16 = .ok (.iload 4, 2) := by decide +kernel
theorem dX5_set_18 : decode cX5_set 18 = .ok (.putfield 15, 3) := by decide +kernel
theorem dX5_set_21 : decode cX5_set 21 = .ok (.return_, 1) := by decide +kernel
theorem dX5_makeNew_0 : decode cX5_makeNew 0 = .ok (.aload_n 0, 1) := by decide +kernel
theorem dX5_makeNew_1 : decode cX5_makeNew 1 = .ok (.iconst 0, 1) := by decide +kernel
theorem dX5_makeNew_2 : decode cX5_makeNew 2 = .ok (.iconst 0, 1) := by decide +kernel
theorem dX5_makeNew_3 : decode cX5_makeNew 3 = .ok (.iconst 0, 1) := by decide +kernel
theorem dX5_makeNew_4 : decode cX5_makeNew 4 = .ok (.iconst (-1), 1) := by decide +kernel
theorem dX5_makeNew_5 : decode cX5_makeNew 5 = .ok (.invokevirtual 36, 3) := by decide +kernel
theorem dX5_makeNew_8 : decode cX5_makeNew 8 = .ok (.aload_n 0, 1) := by decide +kernel
theorem dX5_makeNew_9 : decode cX5_makeNew 9 = .ok (.iconst 0, 1) := by decide +kernel
theorem dX5_makeNew_10 : decode cX5_makeNew 10 = .ok (.putfield 40, 3) := by decide +kernel
theorem dX5_makeNew_13 : decode cX5_makeNew 13 = .ok (.aload_n 0, 1) := by decide +kernel
theorem dX5_makeNew_14 : decode cX5_makeNew 14 = .ok (.iconst 0, 1) := by decide +kernel
theorem dX5_makeNew_15 : decode cX5_makeNew 15 = .ok (.putfield 43, 3) := by decide +kernel
theorem dX5_makeNew_18 : decode cX5_makeNew 18 = .ok (.aload_n 0, 1) := by decide +kernel
theorem dX5_makeNew_19 : decode cX5_makeNew 19 = .ok (.invokevirtual 46, 3) := by decide +kernel
theorem dX5_makeNew_22 : decode cX5_makeNew 22 = .ok (.return_, 1) := by decide +kernel
theorem dX5_copyFrom_0 : decode cX5_copyFrom 0 = .ok (.aload_n 0, 1) := by decide +kernel
theorem dX5_copyFrom_1 : decode cX5_copyFrom 1 = .ok (.aload_n 1, 1) := by decide +kernel
theorem dX5_copyFrom_2 : decode cX5_copyFrom 2 = .ok (.getfield 27, 3) := by decide +kernel
theorem dX5_copyFrom_5 : decode cX5_copyFrom 5 = .ok (.aload_n 1, 1) := by decide +kernel
theorem dX5_copyFrom_6 : decode cX5_copyFrom 6 = .ok (.getfield 30, 3) := by decide +kernel
theorem dX5_copyFrom_9 : decode cX5_copyFrom 9 = .ok (.aload_n 1, 1) := by decide +kernel
theorem dX5_copyFrom_10 : decode cX5_copyFrom 10 = .ok (.getfield 33, 3) := by decide +kernel
theorem dX5_copyFrom_13 : decode cX5_copyFrom 13 = .ok (.aload_n 1, 1) := by decide +kernel
theorem dX5_copyFrom_14 : decode cX5_copyFrom 14 = .ok (.getfield 15, 3) := by decide +kernel
theorem dX5_copyFrom_17 : decode cX5_copyFrom 17 = .ok (.invokevirtual 36, 3) := by decide +kernel
theorem dX5_copyFrom_20 : decode cX5_copyFrom 20 = .ok (.aload_n 0, 1) := by decide +kernel
theorem dX5_copyFrom_21 : decode cX5_copyFrom 21 = .ok (.aload_n 1, 1) := by decide +kernel
theorem dX5_copyFrom_22 : decode cX5_copyFrom 22 = .ok (.getfield 40, 3) := by decide +kernel
theorem dX5_copyFrom_25 : decode cX5_copyFrom 25 = .ok (.putfield 40, 3) := by decide +kernel
theorem dX5_copyFrom_28 : decode cX5_copyFrom 28 = .ok (.aload_n 0, 1) := by decide +kernel
theorem dX5_copyFrom_29 : decode cX5_copyFrom 29 = .ok (.aload_n 1, 1) := by decide +kernel
theorem dX5_copyFrom_30 : decode cX5_copyFrom 30 = .ok (.getfield 43, 3) := by decide +kernel
theorem dX5_copyFrom_33 : decode cX5_copyFrom 33 = .ok (.putfield 43, 3) := by decide +kernel
theorem dX5_copyFrom_36 : decode cX5_copyFrom 36 = .ok (.aload_n 0, 1) := by decide +kernel
theorem dX5_copyFrom_37 : decode cX5_copyFrom 37 = .ok (.aload_n 1, 1) := by decide +kernel
theorem dX5_copyFrom_38 : decode cX5_copyFrom 38 = .ok (.getfield 18, 3) := by decide +kernel
theorem dX5_copyFrom_41 : decode cX5_copyFrom 41 = .ok (.aload_n 1, 1) := by decide +kernel
theorem dX5_copyFrom_42 : decode cX5_copyFrom 42 = .ok (.getfield 21, 3) := by decide +kernel
theorem dX5_copyFrom_45 : decode cX5_copyFrom 45 = .ok (.aload_n 1, 1) := by decide +kernel
theorem dX5_copyFrom_46 : decode cX5_copyFrom 46 = .ok (.getfield 24, 3) := by decide +kernel
theorem dX5_copyFrom_49 : decode cX5_copyFrom 49 = .ok (.invokevirtual 49, 3) := by decide +kernel
theorem dX5_copyFrom_52 : decode cX5_copyFrom 52 = .ok (.return_, 1) := by decide +kernel
theorem dX5_takePlace_0 : decode cX5_takePlace 0 = .ok (.aload_n 0, 1) := by decide +kernel
theorem dX5_takePlace_1 : decode cX5_takePlace 1 = .ok (.iload_n 1, 1) := by decide +kernel
theorem dX5_takePlace_2 : decode cX5_takePlace 2 = .ok (.putfield 18, 3) := by decide +kernel
theorem dX5_takePlace_5 : decode cX5_takePlace 5 = .ok (.aload_n 0, 1) := by decide +kernel
theorem dX5_takePlace_6 : decode cX5_takePlace 6 = .ok (.iload_n 2, 1) := by decide +kernel
theorem dX5_takePlace_7 : decode cX5_takePlace 7 = .ok (.putfield 21, 3) := by decide +kernel
theorem dX5_takePlace_10 : decode cX5_takePlace 10 = .ok (.aload_n 0, 1) := by decide +kernel
theorem dX5_takePlace_11 : decode cX5_takePlace 11 = .ok (.iload_n 3, 1) := by decide +kernel
theorem dX5_takePlace_12 : decode cX5_takePlace 12 = .ok (.putfield 24, 3) := by decide +kernel
theorem dX5_takePlace_15 : decode cX5_takePlace 15 = .ok (.return_, 1) := by decide +kernel
theorem dX5_losePlace_0 : decode cX5_losePlace 0 = .ok (.aload_n 0, 1) := by decide +kernel
theorem dX5_losePlace_1 : decode cX5_losePlace 1 = .ok (.iconst (-1), 1) := by decide +kernel
theorem dX5_losePlace_2 : decode cX5_losePlace 2 = .ok (.iconst (-1), 1) := by decide +kernel
theorem dX5_losePlace_3 : decode cX5_losePlace 3 = .ok (.iconst (-1), 1) := by decide +kernel
theorem dX5_losePlace_4 : decode cX5_losePlace 4 = .ok (.invokevirtual 49, 3) := by decide +kernel
theorem dX5_losePlace_7 : decode cX5_losePlace 7 = .ok (.return_, 1) := by decide +kernel
theorem dX5_isPlaced_0 : decode cX5_isPlaced 0 = .ok (.aload_n 0, 1) := by decide +kernel
theorem dX5_isPlaced_1 : decode cX5_isPlaced 1 = .ok (.getfield 18, 3) := by decide +kernel
theorem dX5_isPlaced_4 : decode cX5_isPlaced 4 = .ok (.iconst (-1), 1) := by decide +kernel
theorem dX5_isPlaced_5 : decode cX5_isPlaced 5 = .ok (.if_icmp .eq 7, 3) := by decide +kernel
theorem dX5_isPlaced_8 : decode cX5_isPlaced 8 = .ok (.iconst 1, 1) := by decide +kernel
theorem dX5_isPlaced_9 : decode cX5_isPlaced 9 = .ok (.goto 4, 3) := by decide +kernel
theorem dX5_isPlaced_12 : decode cX5_isPlaced 12 = .ok (.iconst 0, 1) := by decide +kernel
theorem dX5_isPlaced_13 : decode cX5_isPlaced 13 = .ok (.ireturn, 1) := by decide +kernel
theorem dX5_isDefended_0 : decode cX5_isDefended 0 = .ok (.aload_n 0, 1) := by decide +kernel
theorem dX5_isDefended_1 : decode cX5_isDefended 1 = .ok (.getfield 40, 3) := by decide +kernel
theorem dX5_isDefended_4 : decode cX5_isDefended 4 = .ok (.iconst 4, 1) := by decide +kernel
theorem dX5_isDefended_5 : decode cX5_isDefended 5 = .ok (.if_icmp .ne 7, 3) := by decide +kernel
theorem dX5_isDefended_8 : decode cX5_isDefended 8 = .ok (.iconst 1, 1) := by decide +kernel
theorem dX5_isDefended_9 : decode cX5_isDefended 9 = .ok (.goto 4, 3) := by decide +kernel
theorem dX5_isDefended_12 : decode cX5_isDefended 12 = .ok (.iconst 0, 1) := by decide +kernel
theorem dX5_isDefended_13 : decode cX5_isDefended 13 = .ok (.ireturn, 1) := by decide +kernel
theorem dX5_isAhead_0 : decode cX5_isAhead 0 = .ok (.aload_n 0, 1) := by decide +kernel
theorem dX5_isAhead_1 : decode cX5_isAhead 1 = .ok (.invokevirtual 53, 3) := by decide +kernel
theorem dX5_isAhead_4 : decode cX5_isAhead 4 = .ok (.ifCond .eq 14, 3) := by decide +kernel
theorem dX5_isAhead_7 : decode cX5_isAhead 7 = .ok (.aload_n 0, 1) := by decide +kernel
theorem dX5_isAhead_8 : decode cX5_isAhead 8 = .ok (.invokevirtual 57, 3) := by decide +kernel
theorem dX5_isAhead_11 : decode cX5_isAhead 11 = .ok (.ifCond .ne 7, 3) := by decide +kernel
theorem dX5_isAhead_14 : decode cX5_isAhead 14 = .ok (.iconst 1, 1) := by decide +kernel
theorem dX5_isAhead_15 : decode cX5_isAhead 15 = .ok (.goto 4, 3) := by decide +kernel
theorem dX5_isAhead_18 : decode cX5_isAhead 18 = .ok (.iconst 0, 1) := by decide +kernel
theorem dX5_isAhead_19 : decode cX5_isAhead 19 = .ok (.ireturn, 1) := by decide +kernel
theorem dX5_bit_0 : decode cX5_bit 0 = .ok (.iconst 1, 1) := by decide +kernel
theorem dX5_bit_1 : decode cX5_bit 1 = .ok (.aload_n 0, 1) := by decide +kernel
theorem dX5_bit_2 : decode cX5_bit 2 = .ok (.getfield 9, 3) := by decide +kernel
theorem dX5_bit_5 : decode cX5_bit 5 = .ok (.ishl, 1) := by decide +kernel
theorem dX5_bit_6 : decode cX5_bit 6 = .ok (.ireturn, 1) := by decide +kernel
theorem dX5_memberCount_0 : decode cX5_memberCount 0 = .ok (.aload_n 0, 1) := by decide +kernel
theorem dX5_memberCount_1 : decode cX5_memberCount 1 = .ok (.getfield 43, 3) := by decide +kernel
theorem dX5_memberCount_4 : decode cX5_memberCount 4 = .ok (.invokestatic 60, 3) := by decide +kernel
theorem dX5_memberCount_7 : decode cX5_memberCount 7 = .ok (.ireturn, 1) := by decide +kernel
theorem dX5_needed_0 : decode cX5_needed 0 = .ok (.aload_n 0, 1) := by decide +kernel
theorem dX5_needed_1 : decode cX5_needed 1 = .ok (.getfield 27, 3) := by decide +kernel
theorem dX5_needed_4 : decode cX5_needed 4 = .ok (.iconst 5, 1) := by decide +kernel
theorem dX5_needed_5 : decode cX5_needed 5 = .ok (.imul, 1) := by decide +kernel
theorem dX5_needed_6 : decode cX5_needed 6 = .ok (.iload_n 1, 1) := by decide +kernel
theorem dX5_needed_7 : decode cX5_needed 7 = .ok (.iadd, 1) := by decide +kernel
theorem dX5_needed_8 : decode cX5_needed 8 = .ok (.istore_n 2, 1) := by decide +kernel
theorem dX5_needed_9 : decode cX5_needed 9 = .ok (.iload_n 2, 1) := by decide +kernel
theorem dX5_needed_10 : decode cX5_needed 10 = .ok (.ifCond .lt 19, 3) := by decide +kernel
theorem dX5_needed_13 : decode cX5_needed 13 = .ok (.iload_n 2, 1) := by decide +kernel
theorem dX5_needed_14 : decode cX5_needed 14 = .ok (.getstatic 66, 3) := by decide +kernel
theorem dX5_needed_17 : decode cX5_needed 17 = .ok (.arraylength, 1) := by decide +kernel
theorem dX5_needed_18 : decode cX5_needed 18 = .ok (.if_icmp .ge 11, 3) := by decide +kernel
theorem dX5_needed_21 : decode cX5_needed 21 = .ok (.getstatic 66, 3) := by decide +kernel
theorem dX5_needed_24 : decode cX5_needed 24 = .ok (.iload_n 2, 1) := by decide +kernel
theorem dX5_needed_25 : decode cX5_needed 25 = .ok (.iaload, 1) := by decide +kernel
theorem dX5_needed_26 : decode cX5_needed 26 = .ok (.goto 4, 3) := by decide +kernel
theorem dX5_needed_29 : decode cX5_needed 29 = .ok (.iconst 0, 1) := by decide +kernel
theorem dX5_needed_30 : decode cX5_needed 30 = .ok (.ireturn, 1) := by decide +kernel
theorem dX5_mostMembers_0 : decode cX5_mostMembers 0 = .ok (.aload_n 0, 1) := by decide +kernel
theorem dX5_mostMembers_1 : decode cX5_mostMembers 1 = .ok (.iconst 0, 1) := by decide +kernel
theorem dX5_mostMembers_2 : decode cX5_mostMembers 2 = .ok (.invokevirtual 70, 3) := by decide +kernel
theorem dX5_mostMembers_5 : decode cX5_mostMembers 5 = .ok (.iconst 2, 1) := by decide +kernel
theorem dX5_mostMembers_6 : decode cX5_mostMembers 6 = .ok (.iadd, 1) := by decide +kernel
theorem dX5_mostMembers_7 : decode cX5_mostMembers 7 = .ok (.ireturn, 1) := by decide +kernel
theorem dX5_daysBefore_0 : decode cX5_daysBefore 0 = .ok (.aload_n 0, 1) := by decide +kernel
theorem dX5_daysBefore_1 : decode cX5_daysBefore 1 = .ok (.getfield 27, 3) := by decide +kernel
theorem dX5_daysBefore_4 : decode cX5_daysBefore 4 = .ok (.iconst 4, 1) := by decide +kernel
theorem dX5_daysBefore_5 : decode cX5_daysBefore 5 = .ok (.imul, 1) := by decide +kernel
theorem dX5_daysBefore_6 : decode cX5_daysBefore 6 = .ok (.iload_n 1, 1) := by decide +kernel
theorem dX5_daysBefore_7 : decode cX5_daysBefore 7 = .ok (.iadd, 1) := by decide +kernel
theorem dX5_daysBefore_8 : decode cX5_daysBefore 8 = .ok (.iconst 1, 1) := by decide +kernel
theorem dX5_daysBefore_9 : decode cX5_daysBefore 9 = .ok (.isub, 1) := by decide +kernel
theorem dX5_daysBefore_10 : decode cX5_daysBefore 10 = .ok (.istore_n 2, 1) := by decide +kernel
theorem dX5_daysBefore_11 : decode cX5_daysBefore 11 = .ok (.iload_n 2, 1) := by decide +kernel
theorem dX5_daysBefore_12 : decode cX5_daysBefore 12 = .ok (.ifCond .lt 19, 3) := by decide +kernel
theorem dX5_daysBefore_15 : decode cX5_daysBefore 15 = .ok (.iload_n 2, 1) := by decide +kernel
theorem dX5_daysBefore_16 : decode cX5_daysBefore 16 = .ok (.getstatic 73, 3) := by decide +kernel
theorem dX5_daysBefore_19 : decode cX5_daysBefore 19 = .ok (.arraylength, 1) := by decide +kernel
theorem dX5_daysBefore_20 : decode cX5_daysBefore 20 = .ok (.if_icmp .ge 11, 3) := by decide +kernel
theorem dX5_daysBefore_23 : decode cX5_daysBefore 23 = .ok (.getstatic 73, 3) := by decide +kernel
theorem dX5_daysBefore_26 : decode cX5_daysBefore 26 = .ok (.iload_n 2, 1) := by decide +kernel
theorem dX5_daysBefore_27 : decode cX5_daysBefore 27 = .ok (.iaload, 1) := by decide +kernel
theorem dX5_daysBefore_28 : decode cX5_daysBefore 28 = .ok (.goto 4, 3) := by decide +kernel
theorem dX5_daysBefore_31 : decode cX5_daysBefore 31 = .ok (.iconst 0, 1) := by decide +kernel
theorem dX5_daysBefore_32 : decode cX5_daysBefore 32 = .ok (.ireturn, 1) := by decide +kernel
theorem dX5_deadlineOf_0 : decode cX5_deadlineOf 0 = .ok (.aload_n 0, 1) := by decide +kernel
theorem dX5_deadlineOf_1 : decode cX5_deadlineOf 1 = .ok (.getfield 21, 3) := by decide +kernel
theorem dX5_deadlineOf_4 : decode cX5_deadlineOf 4 = .ok (.aload_n 0, 1) := by decide +kernel
theorem dX5_deadlineOf_5 : decode cX5_deadlineOf 5 = .ok (.iload_n 1, 1) := by decide +kernel
theorem dX5_deadlineOf_6 : decode cX5_deadlineOf 6 = .ok (.invokevirtual 76, 3) := by decide +kernel
theorem dX5_deadlineOf_9 : decode cX5_deadlineOf 9 = .ok (.isub, 1) := by decide +kernel
theorem dX5_deadlineOf_10 : decode cX5_deadlineOf 10 = .ok (.ireturn, 1) := by decide +kernel
theorem dX5_nextDeadline_0 : decode cX5_nextDeadline 0 = .ok (.aload_n 0, 1) := by decide +kernel
theorem dX5_nextDeadline_1 : decode cX5_nextDeadline 1 = .ok (.aload_n 0, 1) := by decide +kernel
theorem dX5_nextDeadline_2 : decode cX5_nextDeadline 2 = .ok (.getfield 40, 3) := by decide +kernel
theorem dX5_nextDeadline_5 : decode cX5_nextDeadline 5 = .ok (.iconst 1, 1) := by decide +kernel
theorem dX5_nextDeadline_6 : decode cX5_nextDeadline 6 = .ok (.iadd, 1) := by decide +kernel
theorem dX5_nextDeadline_7 : decode cX5_nextDeadline 7 = .ok (.invokevirtual 79, 3) := by decide +kernel
theorem dX5_nextDeadline_10 : decode cX5_nextDeadline 10 = .ok (.ireturn, 1) := by decide +kernel
theorem dX5_hoursOn_0 : decode cX5_hoursOn 0 = .ok (.aload_n 0, 1) := by decide +kernel
theorem dX5_hoursOn_1 : decode cX5_hoursOn 1 = .ok (.getfield 18, 3) := by decide +kernel
theorem dX5_hoursOn_4 : decode cX5_hoursOn 4 = .ok (.iconst (-1), 1) := by decide +kernel
theorem dX5_hoursOn_5 : decode cX5_hoursOn 5 = .ok (.if_icmp .eq 20, 3) := by decide +kernel
theorem dX5_hoursOn_8 : decode cX5_hoursOn 8 = .ok (.aload_n 0, 1) := by decide +kernel
theorem dX5_hoursOn_9 : decode cX5_hoursOn 9 = .ok (.getfield 21, 3) := by decide +kernel
theorem dX5_hoursOn_12 : decode cX5_hoursOn 12 = .ok (.iload_n 1, 1) := by decide +kernel
theorem dX5_hoursOn_13 : decode cX5_hoursOn 13 = .ok (.if_icmp .ne 12, 3) := by decide +kernel
theorem dX5_hoursOn_16 : decode cX5_hoursOn 16 = .ok (.iconst 3, 1) := by decide +kernel
theorem dX5_hoursOn_17 : decode cX5_hoursOn 17 = .ok (.aload_n 0, 1) := by decide +kernel
theorem dX5_hoursOn_18 : decode cX5_hoursOn 18 = .ok (.getfield 24, 3) := by decide +kernel
theorem dX5_hoursOn_21 : decode cX5_hoursOn 21 = .ok (.ishl, 1) := by decide +kernel
theorem dX5_hoursOn_22 : decode cX5_hoursOn 22 = .ok (.goto 4, 3) := by decide +kernel
theorem dX5_hoursOn_25 : decode cX5_hoursOn 25 = .ok (.iconst 0, 1) := by decide +kernel
theorem dX5_hoursOn_26 : decode cX5_hoursOn 26 = .ok (.ireturn, 1) := by decide +kernel
theorem dX5_counts_0 : decode cX5_counts 0 = .ok (.iload_n 2, 1) := by decide +kernel
theorem dX5_counts_1 : decode cX5_counts 1 = .ok (.tableswitch 101 0 4 #[35, 37, 50, 64, 84], 35) := by decide +kernel
theorem dX5_counts_36 : decode cX5_counts 36 = .ok (.iconst 1, 1) := by decide +kernel
theorem dX5_counts_37 : decode cX5_counts 37 = .ok (.ireturn, 1) := by decide +kernel
theorem dX5_counts_38 : decode cX5_counts 38 = .ok (.aload_n 1, 1) := by decide +kernel
theorem dX5_counts_39 : decode cX5_counts 39 = .ok (.getfield 82, 3) := by decide +kernel
theorem dX5_counts_42 : decode cX5_counts 42 = .ok (.ifCond .ne 7, 3) := by decide +kernel
theorem dX5_counts_45 : decode cX5_counts 45 = .ok (.iconst 1, 1) := by decide +kernel
theorem dX5_counts_46 : decode cX5_counts 46 = .ok (.goto 4, 3) := by decide +kernel
theorem dX5_counts_49 : decode cX5_counts 49 = .ok (.iconst 0, 1) := by decide +kernel
theorem dX5_counts_50 : decode cX5_counts 50 = .ok (.ireturn, 1) := by decide +kernel
theorem dX5_counts_51 : decode cX5_counts 51 = .ok (.aload_n 1, 1) := by decide +kernel
theorem dX5_counts_52 : decode cX5_counts 52 = .ok (.getfield 82, 3) := by decide +kernel
theorem dX5_counts_55 : decode cX5_counts 55 = .ok (.iconst 2, 1) := by decide +kernel
theorem dX5_counts_56 : decode cX5_counts 56 = .ok (.if_icmp .ne 7, 3) := by decide +kernel
theorem dX5_counts_59 : decode cX5_counts 59 = .ok (.iconst 1, 1) := by decide +kernel
theorem dX5_counts_60 : decode cX5_counts 60 = .ok (.goto 4, 3) := by decide +kernel
theorem dX5_counts_63 : decode cX5_counts 63 = .ok (.iconst 0, 1) := by decide +kernel
theorem dX5_counts_64 : decode cX5_counts 64 = .ok (.ireturn, 1) := by decide +kernel
theorem dX5_counts_65 : decode cX5_counts 65 = .ok (.aload_n 1, 1) := by decide +kernel
theorem dX5_counts_66 : decode cX5_counts 66 = .ok (.getfield 87, 3) := by decide +kernel
theorem dX5_counts_69 : decode cX5_counts 69 = .ok (.aload_n 0, 1) := by decide +kernel
theorem dX5_counts_70 : decode cX5_counts 70 = .ok (.getfield 30, 3) := by decide +kernel
theorem dX5_counts_73 : decode cX5_counts 73 = .ok (.ishr, 1) := by decide +kernel
theorem dX5_counts_74 : decode cX5_counts 74 = .ok (.iconst 1, 1) := by decide +kernel
theorem dX5_counts_75 : decode cX5_counts 75 = .ok (.iand, 1) := by decide +kernel
theorem dX5_counts_76 : decode cX5_counts 76 = .ok (.ifCond .eq 7, 3) := by decide +kernel
theorem dX5_counts_79 : decode cX5_counts 79 = .ok (.iconst 1, 1) := by decide +kernel
theorem dX5_counts_80 : decode cX5_counts 80 = .ok (.goto 4, 3) := by decide +kernel
theorem dX5_counts_83 : decode cX5_counts 83 = .ok (.iconst 0, 1) := by decide +kernel
theorem dX5_counts_84 : decode cX5_counts 84 = .ok (.ireturn, 1) := by decide +kernel
theorem dX5_counts_85 : decode cX5_counts 85 = .ok (.aload_n 1, 1) := by decide +kernel
theorem dX5_counts_86 : decode cX5_counts 86 = .ok (.getfield 90, 3) := by decide +kernel
theorem dX5_counts_89 : decode cX5_counts 89 = .ok (.aload_n 0, 1) := by decide +kernel
theorem dX5_counts_90 : decode cX5_counts 90 = .ok (.getfield 33, 3) := by decide +kernel
theorem dX5_counts_93 : decode cX5_counts 93 = .ok (.if_icmp .eq 7, 3) := by decide +kernel
theorem dX5_counts_96 : decode cX5_counts 96 = .ok (.iconst 1, 1) := by decide +kernel
theorem dX5_counts_97 : decode cX5_counts 97 = .ok (.goto 4, 3) := by decide +kernel
theorem dX5_counts_100 : decode cX5_counts 100 = .ok (.iconst 0, 1) := by decide +kernel
theorem dX5_counts_101 : decode cX5_counts 101 = .ok (.ireturn, 1) := by decide +kernel
theorem dX5_counts_102 : decode cX5_counts 102 = .ok (.iconst 0, 1) := by decide +kernel
theorem dX5_counts_103 : decode cX5_counts 103 = .ok (.ireturn, 1) := by decide +kernel
theorem dX6_init_0 : decode cX6_init 0 = .ok (.aload_n 0, 1) := by decide +kernel
theorem dX6_init_1 : decode cX6_init 1 = .ok (.invokespecial 1, 3) := by decide +kernel
theorem dX6_init_4 : decode cX6_init 4 = .ok (.aload_n 0, 1) := by decide +kernel
theorem dX6_init_5 : decode cX6_init 5 = .ok (.new 7, 3) := by decide +kernel
theorem dX6_init_8 : decode cX6_init 8 = .ok (.dup, 1) := by decide +kernel
theorem dX6_init_9 : decode cX6_init 9 = .ok (.invokespecial 9, 3) := by decide +kernel
theorem dX6_init_12 : decode cX6_init 12 = .ok (.putfield 10, 3) := by decide +kernel
theorem dX6_init_15 : decode cX6_init 15 = .ok (.aload_n 0, 1) := by decide +kernel
theorem dX6_init_16 : decode cX6_init 16 = .ok (.new 7, 3) := by decide +kernel
theorem dX6_init_19 : decode cX6_init 19 = .ok (.dup, 1) := by decide +kernel
theorem dX6_init_20 : decode cX6_init 20 = .ok (.invokespecial 9, 3) := by decide +kernel
theorem dX6_init_23 : decode cX6_init 23 = .ok (.putfield 16, 3) := by decide +kernel
theorem dX6_init_26 : decode cX6_init 26 = .ok (.aload_n 0, 1) := by decide +kernel
theorem dX6_init_27 : decode cX6_init 27 = .ok (.new 19, 3) := by decide +kernel
theorem dX6_init_30 : decode cX6_init 30 = .ok (.dup, 1) := by decide +kernel
theorem dX6_init_31 : decode cX6_init 31 = .ok (.invokespecial 21, 3) := by decide +kernel
theorem dX6_init_34 : decode cX6_init 34 = .ok (.putfield 22, 3) := by decide +kernel
theorem dX6_init_37 : decode cX6_init 37 = .ok (.aload_n 0, 1) := by decide +kernel
theorem dX6_init_38 : decode cX6_init 38 = .ok (.new 26, 3) := by decide +kernel
theorem dX6_init_41 : decode cX6_init 41 = .ok (.dup, 1) := by decide +kernel
theorem dX6_init_42 : decode cX6_init 42 = .ok (.invokespecial 28, 3) := by decide +kernel
theorem dX6_init_45 : decode cX6_init 45 = .ok (.putfield 29, 3) := by decide +kernel
theorem dX6_init_48 : decode cX6_init 48 = .ok (.aload_n 0, 1) := by decide +kernel
theorem dX6_init_49 : decode cX6_init 49 = .ok (.new 33, 3) := by decide +kernel
theorem dX6_init_52 : decode cX6_init 52 = .ok (.dup, 1) := by decide +kernel
theorem dX6_init_53 : decode cX6_init 53 = .ok (.invokespecial 35, 3) := by decide +kernel
theorem dX6_init_56 : decode cX6_init 56 = .ok (.putfield 36, 3) := by decide +kernel
theorem dX6_init_59 : decode cX6_init 59 = .ok (.aload_n 0, 1) := by decide +kernel
theorem dX6_init_60 : decode cX6_init 60 = .ok (.iconst (-1), 1) := by decide +kernel
theorem dX6_init_61 : decode cX6_init 61 = .ok (.putfield 40, 3) := by decide +kernel
theorem dX6_init_64 : decode cX6_init 64 = .ok (.aload_n 0, 1) := by decide +kernel
theorem dX6_init_65 : decode cX6_init 65 = .ok (.iconst (-1), 1) := by decide +kernel
theorem dX6_init_66 : decode cX6_init 66 = .ok (.putfield 44, 3) := by decide +kernel
theorem dX6_init_69 : decode cX6_init 69 = .ok (.return_, 1) := by decide +kernel
theorem dX6_clear_0 : decode cX6_clear 0 = .ok (.aload_n 0, 1) := by decide +kernel
theorem dX6_clear_1 : decode cX6_clear 1 = .ok (.getfield 10, 3) := by decide +kernel
theorem dX6_clear_4 : decode cX6_clear 4 = .ok (.getfield 47, 3) := by decide +kernel
theorem dX6_clear_7 : decode cX6_clear 7 = .ok (.istore_n 1, 1) := by decide +kernel
theorem dX6_clear_8 : decode cX6_clear 8 = .ok (.aload_n 0, 1) := by decide +kernel
theorem dX6_clear_9 : decode cX6_clear 9 = .ok (.getfield 10, 3) := by decide +kernel
theorem dX6_clear_12 : decode cX6_clear 12 = .ok (.invokevirtual 50, 3) := by decide +kernel
theorem dX6_clear_15 : decode cX6_clear 15 = .ok (.aload_n 0, 1) := by decide +kernel
theorem dX6_clear_16 : decode cX6_clear 16 = .ok (.getfield 22, 3) := by decide +kernel
theorem dX6_clear_19 : decode cX6_clear 19 = .ok (.invokevirtual 53, 3) := by decide +kernel
theorem dX6_clear_22 : decode cX6_clear 22 = .ok (.iload_n 1, 1) := by decide +kernel
theorem dX6_clear_23 : decode cX6_clear 23 = .ok (.ireturn, 1) := by decide +kernel
theorem dX6_addPerson_0 : decode cX6_addPerson 0 = .ok (.iload_n 1, 1) := by decide +kernel
theorem dX6_addPerson_1 : decode cX6_addPerson 1 = .ok (.iconst 3, 1) := by decide +kernel
theorem dX6_addPerson_2 : decode cX6_addPerson 2 = .ok (.invokestatic 56, 3) := by decide +kernel
theorem dX6_addPerson_5 : decode cX6_addPerson 5 = .ok (.ifCond .eq 33, 3) := by decide +kernel
theorem dX6_addPerson_8 : decode cX6_addPerson 8 = .ok (.iload_n 2, 1) := by decide +kernel
theorem dX6_addPerson_9 : decode cX6_addPerson 9 = .ok (.bipush 64, 2) := by decide +kernel
theorem dX6_addPerson_11 : decode cX6_addPerson 11 = .ok (.invokestatic 56, 3) := by decide +kernel
theorem dX6_addPerson_14 : decode cX6_addPerson 14 = .ok (.ifCond .eq 24, 3) := by decide +kernel
theorem dX6_addPerson_17 : decode cX6_addPerson 17 = .ok (.iload_n 3, 1) := by decide +kernel
theorem dX6_addPerson_18 : decode cX6_addPerson 18 = .ok (.iconst 4, 1) := by decide +kernel
theorem dX6_addPerson_19 : decode cX6_addPerson 19 = .ok (.invokestatic 56, 3) := by decide +kernel
theorem dX6_addPerson_22 : decode cX6_addPerson 22 = .ok (.ifCond .eq 16, 3) := by decide +kernel
theorem dX6_addPerson_25 : decode cX6_addPerson 25 = .ok (.iload 4, 2) := by decide +kernel
theorem dX6_addPerson_27 : decode cX6_addPerson 27 = .ok (.iconst 1, 1) := by decide +kernel
theorem dX6_addPerson_28 : decode cX6_addPerson 28 = .ok (.if_icmp .lt 10, 3) := by decide +kernel
theorem dX6_addPerson_31 : decode cX6_addPerson 31 = .ok (.iload 4, 2) := by decide +kernel
theorem dX6_addPerson_33 : decode cX6_addPerson 33 = .ok (.bipush 6, 2) := by decide +kernel
theorem dX6_addPerson_35 : decode cX6_addPerson 35 = .ok (.if_icmp .le 13, 3) := by decide +kernel
theorem dX6_addPerson_38 : decode cX6_addPerson 38 = .ok (.new 60, 3) := by decide +kernel
theorem dX6_addPerson_41 : decode cX6_addPerson 41 = .ok (.dup, 1) := by decide +kernel
theorem dX6_addPerson_42 : decode cX6_addPerson 42 = .ok (.ldc 62, 2) := by decide +kernel
theorem dX6_addPerson_44 : decode cX6_addPerson 44 = .ok (.invokespecial 64, 3) := by decide +kernel
theorem dX6_addPerson_47 : decode cX6_addPerson 47 = .ok (.athrow, 1) := by decide +kernel
theorem dX6_addPerson_48 : decode cX6_addPerson 48 = .ok (.aload_n 0, 1) := by decide +kernel
theorem dX6_addPerson_49 : decode cX6_addPerson 49 = .ok (.getfield 10, 3) := by decide +kernel
theorem dX6_addPerson_52 : decode cX6_addPerson 52 = .ok (.getfield 47, 3) := by decide +kernel
theorem dX6_addPerson_55 : decode cX6_addPerson 55 = .ok (.bipush 14, 2) := by decide +kernel
theorem dX6_addPerson_57 : decode cX6_addPerson 57 = .ok (.if_icmp .lt 13, 3) := by decide +kernel
theorem dX6_addPerson_60 : decode cX6_addPerson 60 = .ok (.new 67, 3) := by decide +kernel
theorem dX6_addPerson_63 : decode cX6_addPerson 63 = .ok (.dup, 1) := by decide +kernel
theorem dX6_addPerson_64 : decode cX6_addPerson 64 = .ok (.ldc 69, 2) := by decide +kernel
theorem dX6_addPerson_66 : decode cX6_addPerson 66 = .ok (.invokespecial 71, 3) := by decide +kernel
theorem dX6_addPerson_69 : decode cX6_addPerson 69 = .ok (.athrow, 1) := by decide +kernel
theorem dX6_addPerson_70 : decode cX6_addPerson 70 = .ok (.aload_n 0, 1) := by decide +kernel
theorem dX6_addPerson_71 : decode cX6_addPerson 71 = .ok (.getfield 22, 3) := by decide +kernel
theorem dX6_addPerson_74 : decode cX6_addPerson 74 = .ok (.aload_n 0, 1) := by decide +kernel
theorem dX6_addPerson_75 : decode cX6_addPerson 75 = .ok (.getfield 10, 3) := by decide +kernel
theorem dX6_addPerson_78 : decode cX6_addPerson 78 = .ok (.invokevirtual 72, 3) := by decide +kernel
theorem dX6_addPerson_81 : decode cX6_addPerson 81 = .ok (.aload_n 0, 1) := by decide +kernel
theorem dX6_addPerson_82 : decode cX6_addPerson 82 = .ok (.getfield 10, 3) := by decide +kernel
theorem dX6_addPerson_85 : decode cX6_addPerson 85 = .ok (.iload_n 1, 1) := by decide +kernel
theorem dX6_addPerson_86 : decode cX6_addPerson 86 = .ok (.iload_n 2, 1) := by decide +kernel
theorem dX6_addPerson_87 : decode cX6_addPerson 87 = .ok (.iload_n 3, 1) := by decide +kernel
theorem dX6_addPerson_88 : decode cX6_addPerson 88 = .ok (.iload 4, 2) := by decide +kernel
theorem dX6_addPerson_90 : decode cX6_addPerson 90 = .ok (.invokevirtual 76, 3) := by decide +kernel
theorem dX6_addPerson_93 : decode cX6_addPerson 93 = .ok (.ireturn, 1) := by decide +kernel
theorem dX6_setConflict_0 : decode cX6_setConflict 0 = .ok (.aload_n 0, 1) := by decide +kernel
theorem dX6_setConflict_1 : decode cX6_setConflict 1 = .ok (.iload_n 1, 1) := by decide +kernel
theorem dX6_setConflict_2 : decode cX6_setConflict 2 = .ok (.invokevirtual 80, 3) := by decide +kernel
theorem dX6_setConflict_5 : decode cX6_setConflict 5 = .ok (.astore 4, 2) := by decide +kernel
theorem dX6_setConflict_7 : decode cX6_setConflict 7 = .ok (.aload_n 0, 1) := by decide +kernel
theorem dX6_setConflict_8 : decode cX6_setConflict 8 = .ok (.iload_n 2, 1) := by decide +kernel
theorem dX6_setConflict_9 : decode cX6_setConflict 9 = .ok (.invokevirtual 80, 3) := by decide +kernel
theorem dX6_setConflict_12 : decode cX6_setConflict 12 = .ok (.astore 5, 2) := by decide +kernel
theorem dX6_setConflict_14 : decode cX6_setConflict 14 = .ok (.iload_n 1, 1) := by decide +kernel
theorem dX6_setConflict_15 : decode cX6_setConflict 15 = .ok (.iload_n 2, 1) := by decide +kernel
theorem dX6_setConflict_16 : decode cX6_setConflict 16 = .ok (.if_icmp .ne 13, 3) := by decide +kernel
theorem dX6_setConflict_19 : decode cX6_setConflict 19 = .ok (.new 60, 3) := by decide +kernel
theorem dX6_setConflict_22 : decode cX6_setConflict 22 = .ok (.dup, 1) := by decide +kernel
theorem dX6_setConflict_23 : decode cX6_setConflict 23 = .ok (.ldc 84, 2) := by decide +kernel
theorem dX6_setConflict_25 : decode cX6_setConflict 25 = .ok (.invokespecial 64, 3) := by decide +kernel
theorem dX6_setConflict_28 : decode cX6_setConflict 28 = .ok (.athrow, 1) := by decide +kernel
theorem dX6_setConflict_29 : decode cX6_setConflict 29 = .ok (.aload_n 0, 1) := by decide +kernel
theorem dX6_setConflict_30 : decode cX6_setConflict 30 = .ok (.getfield 22, 3) := by decide +kernel
theorem dX6_setConflict_33 : decode cX6_setConflict 33 = .ok (.aload_n 0, 1) := by decide +kernel
theorem dX6_setConflict_34 : decode cX6_setConflict 34 = .ok (.getfield 10, 3) := by decide +kernel
theorem dX6_setConflict_37 : decode cX6_setConflict 37 = .ok (.invokevirtual 72, 3) := by decide +kernel
theorem dX6_setConflict_40 : decode cX6_setConflict 40 = .ok (.aload 5, 2) := by decide +kernel
theorem dX6_setConflict_42 : decode cX6_setConflict 42 = .ok (.aload 4, 2) := by decide +kernel
theorem dX6_setConflict_44 : decode cX6_setConflict 44 = .ok (.getfield 86, 3) := by decide +kernel
theorem dX6_setConflict_47 : decode cX6_setConflict 47 = .ok (.invokevirtual 91, 3) := by decide +kernel
theorem dX6_setConflict_50 : decode cX6_setConflict 50 = .ok (.istore 6, 2) := by decide +kernel
theorem dX6_setConflict_52 : decode cX6_setConflict 52 = .ok (.aload 4, 2) := by decide +kernel
theorem dX6_setConflict_54 : decode cX6_setConflict 54 = .ok (.aload 5, 2) := by decide +kernel
theorem dX6_setConflict_56 : decode cX6_setConflict 56 = .ok (.iload_n 3, 1) := by decide +kernel
theorem dX6_setConflict_57 : decode cX6_setConflict 57 = .ok (.invokevirtual 95, 3) := by decide +kernel
theorem dX6_setConflict_60 : decode cX6_setConflict 60 = .ok (.aload 5, 2) := by decide +kernel
theorem dX6_setConflict_62 : decode cX6_setConflict 62 = .ok (.aload 4, 2) := by decide +kernel
theorem dX6_setConflict_64 : decode cX6_setConflict 64 = .ok (.iload_n 3, 1) := by decide +kernel
theorem dX6_setConflict_65 : decode cX6_setConflict 65 = .ok (.invokevirtual 95, 3) := by decide +kernel
theorem dX6_setConflict_68 : decode cX6_setConflict 68 = .ok (.iload 6, 2) := by decide +kernel
theorem dX6_setConflict_70 : decode cX6_setConflict 70 = .ok (.ireturn, 1) := by decide +kernel
theorem dX6_setBusy_0 : decode cX6_setBusy 0 = .ok (.aload_n 0, 1) := by decide +kernel
theorem dX6_setBusy_1 : decode cX6_setBusy 1 = .ok (.iload_n 1, 1) := by decide +kernel
theorem dX6_setBusy_2 : decode cX6_setBusy 2 = .ok (.invokevirtual 80, 3) := by decide +kernel
theorem dX6_setBusy_5 : decode cX6_setBusy 5 = .ok (.astore 5, 2) := by decide +kernel
theorem dX6_setBusy_7 : decode cX6_setBusy 7 = .ok (.iload_n 2, 1) := by decide +kernel
theorem dX6_setBusy_8 : decode cX6_setBusy 8 = .ok (.iload_n 3, 1) := by decide +kernel
theorem dX6_setBusy_9 : decode cX6_setBusy 9 = .ok (.bipush 7, 2) := by decide +kernel
theorem dX6_setBusy_11 : decode cX6_setBusy 11 = .ok (.invokestatic 99, 3) := by decide +kernel
theorem dX6_setBusy_14 : decode cX6_setBusy 14 = .ok (.aload_n 0, 1) := by decide +kernel
theorem dX6_setBusy_15 : decode cX6_setBusy 15 = .ok (.getfield 22, 3) := by decide +kernel
theorem dX6_setBusy_18 : decode cX6_setBusy 18 = .ok (.aload_n 0, 1) := by decide +kernel
theorem dX6_setBusy_19 : decode cX6_setBusy 19 = .ok (.getfield 10, 3) := by decide +kernel
theorem dX6_setBusy_22 : decode cX6_setBusy 22 = .ok (.invokevirtual 72, 3) := by decide +kernel
theorem dX6_setBusy_25 : decode cX6_setBusy 25 = .ok (.aload 5, 2) := by decide +kernel
theorem dX6_setBusy_27 : decode cX6_setBusy 27 = .ok (.iload_n 2, 1) := by decide +kernel
theorem dX6_setBusy_28 : decode cX6_setBusy 28 = .ok (.iload_n 3, 1) := by decide +kernel
theorem dX6_setBusy_29 : decode cX6_setBusy 29 = .ok (.invokevirtual 103, 3) := by decide +kernel
theorem dX6_setBusy_32 : decode cX6_setBusy 32 = .ok (.istore 6, 2) := by decide +kernel
theorem dX6_setBusy_34 : decode cX6_setBusy 34 = .ok (.iload 6, 2) := by decide +kernel
theorem dX6_setBusy_36 : decode cX6_setBusy 36 = .ok (.iload 4, 2) := by decide +kernel
theorem dX6_setBusy_38 : decode cX6_setBusy 38 = .ok (.if_icmp .eq 10, 3) := by decide +kernel
theorem dX6_setBusy_41 : decode cX6_setBusy 41 = .ok (.aload 5, 2) := by decide +kernel
theorem dX6_setBusy_43 : decode cX6_setBusy 43 = .ok (.iload_n 2, 1) := by decide +kernel
theorem dX6_setBusy_44 : decode cX6_setBusy 44 = .ok (.iload_n 3, 1) := by decide +kernel
theorem dX6_setBusy_45 : decode cX6_setBusy 45 = .ok (.invokevirtual 106, 3) := by decide +kernel
theorem dX6_setBusy_48 : decode cX6_setBusy 48 = .ok (.iload 6, 2) := by decide +kernel
theorem dX6_setBusy_50 : decode cX6_setBusy 50 = .ok (.ireturn, 1) := by decide +kernel
theorem dX6_person_0 : decode cX6_person 0 = .ok (.aload_n 0, 1) := by decide +kernel
theorem dX6_person_1 : decode cX6_person 1 = .ok (.iload_n 1, 1) := by decide +kernel
theorem dX6_person_2 : decode cX6_person 2 = .ok (.invokevirtual 80, 3) := by decide +kernel
theorem dX6_person_5 : decode cX6_person 5 = .ok (.astore_n 3, 1) := by decide +kernel
theorem dX6_person_6 : decode cX6_person 6 = .ok (.iload_n 2, 1) := by decide +kernel
theorem dX6_person_7 : decode cX6_person 7 = .ok (.tableswitch 94 0 7 #[45, 50, 55, 60, 65, 70, 80, 89], 45) := by decide +kernel
theorem dX6_person_52 : decode cX6_person 52 = .ok (.aload_n 3, 1) := by decide +kernel
theorem dX6_person_53 : decode cX6_person 53 = .ok (.getfield 110, 3) := by decide +kernel
theorem dX6_person_56 : decode cX6_person 56 = .ok (.ireturn, 1) := by decide +kernel
theorem dX6_person_57 : decode cX6_person 57 = .ok (.aload_n 3, 1) := by decide +kernel
theorem dX6_person_58 : decode cX6_person 58 = .ok (.getfield 113, 3) := by decide +kernel
theorem dX6_person_61 : decode cX6_person 61 = .ok (.ireturn, 1) := by decide +kernel
theorem dX6_person_62 : decode cX6_person 62 = .ok (.aload_n 3, 1) := by decide +kernel
theorem dX6_person_63 : decode cX6_person 63 = .ok (.getfield 116, 3) := by decide +kernel
theorem dX6_person_66 : decode cX6_person 66 = .ok (.ireturn, 1) := by decide +kernel
theorem dX6_person_67 : decode cX6_person 67 = .ok (.aload_n 3, 1) := by decide +kernel
theorem dX6_person_68 : decode cX6_person 68 = .ok (.getfield 119, 3) := by decide +kernel
theorem dX6_person_71 : decode cX6_person 71 = .ok (.ireturn, 1) := by decide +kernel
theorem dX6_person_72 : decode cX6_person 72 = .ok (.aload_n 3, 1) := by decide +kernel
theorem dX6_person_73 : decode cX6_person 73 = .ok (.getfield 86, 3) := by decide +kernel
theorem dX6_person_76 : decode cX6_person 76 = .ok (.ireturn, 1) := by decide +kernel
theorem dX6_person_77 : decode cX6_person 77 = .ok (.aload_n 0, 1) := by decide +kernel
theorem dX6_person_78 : decode cX6_person 78 = .ok (.getfield 10, 3) := by decide +kernel
theorem dX6_person_81 : decode cX6_person 81 = .ok (.aload_n 3, 1) := by decide +kernel
theorem dX6_person_82 : decode cX6_person 82 = .ok (.aconst_null, 1) := by decide +kernel
theorem dX6_person_83 : decode cX6_person 83 = .ok (.invokevirtual 122, 3) := by decide +kernel
theorem dX6_person_86 : decode cX6_person 86 = .ok (.ireturn, 1) := by decide +kernel
theorem dX6_person_87 : decode cX6_person 87 = .ok (.aload_n 0, 1) := by decide +kernel
theorem dX6_person_88 : decode cX6_person 88 = .ok (.getfield 10, 3) := by decide +kernel
theorem dX6_person_91 : decode cX6_person 91 = .ok (.aload_n 3, 1) := by decide +kernel
theorem dX6_person_92 : decode cX6_person 92 = .ok (.invokevirtual 126, 3) := by decide +kernel
theorem dX6_person_95 : decode cX6_person 95 = .ok (.ireturn, 1) := by decide +kernel
theorem dX6_person_96 : decode cX6_person 96 = .ok (.aload_n 3, 1) := by decide +kernel
theorem dX6_person_97 : decode cX6_person 97 = .ok (.getfield 130, 3) := by decide +kernel
theorem dX6_person_100 : decode cX6_person 100 = .ok (.ireturn, 1) := by decide +kernel
theorem dX6_person_101 : decode cX6_person 101 = .ok (.new 60, 3) := by decide +kernel
theorem dX6_person_104 : decode cX6_person 104 = .ok (.dup, 1) := by decide +kernel
theorem dX6_person_105 : decode cX6_person 105 = .ok (.ldc 133, 2) := by decide +kernel
theorem dX6_person_107 : decode cX6_person 107 = .ok (.invokespecial 64, 3) := by decide +kernel
theorem dX6_person_110 : decode cX6_person 110 = .ok (.athrow, 1) := by decide +kernel
theorem dX6_isFree_0 : decode cX6_isFree 0 = .ok (.aload_n 0, 1) := by decide +kernel
theorem dX6_isFree_1 : decode cX6_isFree 1 = .ok (.iload_n 1, 1) := by decide +kernel
theorem dX6_isFree_2 : decode cX6_isFree 2 = .ok (.invokevirtual 80, 3) := by decide +kernel
theorem dX6_isFree_5 : decode cX6_isFree 5 = .ok (.astore 4, 2) := by decide +kernel
theorem dX6_isFree_7 : decode cX6_isFree 7 = .ok (.iload_n 2, 1) := by decide +kernel
theorem dX6_isFree_8 : decode cX6_isFree 8 = .ok (.iload_n 3, 1) := by decide +kernel
theorem dX6_isFree_9 : decode cX6_isFree 9 = .ok (.bipush 6, 2) := by decide +kernel
theorem dX6_isFree_11 : decode cX6_isFree 11 = .ok (.invokestatic 99, 3) := by decide +kernel
theorem dX6_isFree_14 : decode cX6_isFree 14 = .ok (.aload_n 0, 1) := by decide +kernel
theorem dX6_isFree_15 : decode cX6_isFree 15 = .ok (.getfield 10, 3) := by decide +kernel
theorem dX6_isFree_18 : decode cX6_isFree 18 = .ok (.aload 4, 2) := by decide +kernel
theorem dX6_isFree_20 : decode cX6_isFree 20 = .ok (.iload_n 2, 1) := by decide +kernel
theorem dX6_isFree_21 : decode cX6_isFree 21 = .ok (.aconst_null, 1) := by decide +kernel
theorem dX6_isFree_22 : decode cX6_isFree 22 = .ok (.invokevirtual 135, 3) := by decide +kernel
theorem dX6_isFree_25 : decode cX6_isFree 25 = .ok (.iconst 3, 1) := by decide +kernel
theorem dX6_isFree_26 : decode cX6_isFree 26 = .ok (.iload_n 3, 1) := by decide +kernel
theorem dX6_isFree_27 : decode cX6_isFree 27 = .ok (.ishl, 1) := by decide +kernel
theorem dX6_isFree_28 : decode cX6_isFree 28 = .ok (.iand, 1) := by decide +kernel
theorem dX6_isFree_29 : decode cX6_isFree 29 = .ok (.ifCond .ne 7, 3) := by decide +kernel
theorem dX6_isFree_32 : decode cX6_isFree 32 = .ok (.iconst 1, 1) := by decide +kernel
theorem dX6_isFree_33 : decode cX6_isFree 33 = .ok (.goto 4, 3) := by decide +kernel
theorem dX6_isFree_36 : decode cX6_isFree 36 = .ok (.iconst 0, 1) := by decide +kernel
theorem dX6_isFree_37 : decode cX6_isFree 37 = .ok (.ireturn, 1) := by decide +kernel
theorem dX6_freeDay_0 : decode cX6_freeDay 0 = .ok (.aload_n 0, 1) := by decide +kernel
theorem dX6_freeDay_1 : decode cX6_freeDay 1 = .ok (.getfield 10, 3) := by decide +kernel
theorem dX6_freeDay_4 : decode cX6_freeDay 4 = .ok (.aload_n 0, 1) := by decide +kernel
theorem dX6_freeDay_5 : decode cX6_freeDay 5 = .ok (.iload_n 1, 1) := by decide +kernel
theorem dX6_freeDay_6 : decode cX6_freeDay 6 = .ok (.invokevirtual 80, 3) := by decide +kernel
theorem dX6_freeDay_9 : decode cX6_freeDay 9 = .ok (.invokevirtual 139, 3) := by decide +kernel
theorem dX6_freeDay_12 : decode cX6_freeDay 12 = .ok (.istore_n 2, 1) := by decide +kernel
theorem dX6_freeDay_13 : decode cX6_freeDay 13 = .ok (.iload_n 2, 1) := by decide +kernel
theorem dX6_freeDay_14 : decode cX6_freeDay 14 = .ok (.iconst (-1), 1) := by decide +kernel
theorem dX6_freeDay_15 : decode cX6_freeDay 15 = .ok (.if_icmp .ne 13, 3) := by decide +kernel
theorem dX6_freeDay_18 : decode cX6_freeDay 18 = .ok (.new 142, 3) := by decide +kernel
theorem dX6_freeDay_21 : decode cX6_freeDay 21 = .ok (.dup, 1) := by decide +kernel
theorem dX6_freeDay_22 : decode cX6_freeDay 22 = .ok (.ldc 144, 2) := by decide +kernel
theorem dX6_freeDay_24 : decode cX6_freeDay 24 = .ok (.invokespecial 146, 3) := by decide +kernel
theorem dX6_freeDay_27 : decode cX6_freeDay 27 = .ok (.athrow, 1) := by decide +kernel
theorem dX6_freeDay_28 : decode cX6_freeDay 28 = .ok (.iload_n 2, 1) := by decide +kernel
theorem dX6_freeDay_29 : decode cX6_freeDay 29 = .ok (.ireturn, 1) := by decide +kernel
theorem dX6_addThesis_0 : decode cX6_addThesis 0 = .ok (.aload_n 0, 1) := by decide +kernel
theorem dX6_addThesis_1 : decode cX6_addThesis 1 = .ok (.iload 4, 2) := by decide +kernel
theorem dX6_addThesis_3 : decode cX6_addThesis 3 = .ok (.invokevirtual 80, 3) := by decide +kernel
theorem dX6_addThesis_6 : decode cX6_addThesis 6 = .ok (.pop, 1) := by decide +kernel
theorem dX6_addThesis_7 : decode cX6_addThesis 7 = .ok (.iload_n 1, 1) := by decide +kernel
theorem dX6_addThesis_8 : decode cX6_addThesis 8 = .ok (.iconst 3, 1) := by decide +kernel
theorem dX6_addThesis_9 : decode cX6_addThesis 9 = .ok (.invokestatic 56, 3) := by decide +kernel
theorem dX6_addThesis_12 : decode cX6_addThesis 12 = .ok (.ifCond .eq 20, 3) := by decide +kernel
theorem dX6_addThesis_15 : decode cX6_addThesis 15 = .ok (.iload_n 2, 1) := by decide +kernel
theorem dX6_addThesis_16 : decode cX6_addThesis 16 = .ok (.bipush 6, 2) := by decide +kernel
theorem dX6_addThesis_18 : decode cX6_addThesis 18 = .ok (.invokestatic 56, 3) := by decide +kernel
theorem dX6_addThesis_21 : decode cX6_addThesis 21 = .ok (.ifCond .eq 11, 3) := by decide +kernel
theorem dX6_addThesis_24 : decode cX6_addThesis 24 = .ok (.iload_n 3, 1) := by decide +kernel
theorem dX6_addThesis_25 : decode cX6_addThesis 25 = .ok (.iconst 4, 1) := by decide +kernel
theorem dX6_addThesis_26 : decode cX6_addThesis 26 = .ok (.invokestatic 56, 3) := by decide +kernel
theorem dX6_addThesis_29 : decode cX6_addThesis 29 = .ok (.ifCond .ne 13, 3) := by decide +kernel
theorem dX6_addThesis_32 : decode cX6_addThesis 32 = .ok (.new 60, 3) := by decide +kernel
theorem dX6_addThesis_35 : decode cX6_addThesis 35 = .ok (.dup, 1) := by decide +kernel
theorem dX6_addThesis_36 : decode cX6_addThesis 36 = .ok (.ldc 147, 2) := by decide +kernel
theorem dX6_addThesis_38 : decode cX6_addThesis 38 = .ok (.invokespecial 64, 3) := by decide +kernel
theorem dX6_addThesis_41 : decode cX6_addThesis 41 = .ok (.athrow, 1) := by decide +kernel
theorem dX6_addThesis_42 : decode cX6_addThesis 42 = .ok (.aload_n 0, 1) := by decide +kernel
theorem dX6_addThesis_43 : decode cX6_addThesis 43 = .ok (.getfield 10, 3) := by decide +kernel
theorem dX6_addThesis_46 : decode cX6_addThesis 46 = .ok (.getfield 149, 3) := by decide +kernel
theorem dX6_addThesis_49 : decode cX6_addThesis 49 = .ok (.bipush 8, 2) := by decide +kernel
theorem dX6_addThesis_51 : decode cX6_addThesis 51 = .ok (.if_icmp .lt 13, 3) := by decide +kernel
theorem dX6_addThesis_54 : decode cX6_addThesis 54 = .ok (.new 67, 3) := by decide +kernel
theorem dX6_addThesis_57 : decode cX6_addThesis 57 = .ok (.dup, 1) := by decide +kernel
theorem dX6_addThesis_58 : decode cX6_addThesis 58 = .ok (.ldc 152, 2) := by decide +kernel
theorem dX6_addThesis_60 : decode cX6_addThesis 60 = .ok (.invokespecial 71, 3) := by decide +kernel
theorem dX6_addThesis_63 : decode cX6_addThesis 63 = .ok (.athrow, 1) := by decide +kernel
theorem dX6_addThesis_64 : decode cX6_addThesis 64 = .ok (.aload_n 0, 1) := by decide +kernel
theorem dX6_addThesis_65 : decode cX6_addThesis 65 = .ok (.getfield 22, 3) := by decide +kernel
theorem dX6_addThesis_68 : decode cX6_addThesis 68 = .ok (.aload_n 0, 1) := by decide +kernel
theorem dX6_addThesis_69 : decode cX6_addThesis 69 = .ok (.getfield 10, 3) := by decide +kernel
theorem dX6_addThesis_72 : decode cX6_addThesis 72 = .ok (.invokevirtual 72, 3) := by decide +kernel
theorem dX6_addThesis_75 : decode cX6_addThesis 75 = .ok (.aload_n 0, 1) := by decide +kernel
theorem dX6_addThesis_76 : decode cX6_addThesis 76 = .ok (.getfield 10, 3) := by decide +kernel
theorem dX6_addThesis_79 : decode cX6_addThesis 79 = .ok (.iload_n 1, 1) := by decide +kernel
theorem dX6_addThesis_80 : decode cX6_addThesis 80 = .ok (.iload_n 2, 1) := by decide +kernel
theorem dX6_addThesis_81 : decode cX6_addThesis 81 = .ok (.iload_n 3, 1) := by decide +kernel
theorem dX6_addThesis_82 : decode cX6_addThesis 82 = .ok (.iload 4, 2) := by decide +kernel
theorem dX6_addThesis_84 : decode cX6_addThesis 84 = .ok (.invokevirtual 154, 3) := by decide +kernel
theorem dX6_addThesis_87 : decode cX6_addThesis 87 = .ok (.ireturn, 1) := by decide +kernel
theorem dX6_thesis_0 : decode cX6_thesis 0 = .ok (.aload_n 0, 1) := by decide +kernel
theorem dX6_thesis_1 : decode cX6_thesis 1 = .ok (.iload_n 1, 1) := by decide +kernel
theorem dX6_thesis_2 : decode cX6_thesis 2 = .ok (.invokevirtual 157, 3) := by decide +kernel
theorem dX6_thesis_5 : decode cX6_thesis 5 = .ok (.astore_n 3, 1) := by decide +kernel
theorem dX6_thesis_6 : decode cX6_thesis 6 = .ok (.iload_n 2, 1) := by decide +kernel
theorem dX6_thesis_7 : decode cX6_thesis 7 = .ok (.tableswitch 125 0 10 #[57, 62, 67, 72, 77, 82, 87, 92, 97, 102, 120], 57) := by decide +kernel
theorem dX6_thesis_64 : decode cX6_thesis 64 = .ok (.aload_n 3, 1) := by decide +kernel
theorem dX6_thesis_65 : decode cX6_thesis 65 = .ok (.getfield 161, 3) := by decide +kernel
theorem dX6_thesis_68 : decode cX6_thesis 68 = .ok (.ireturn, 1) := by decide +kernel
theorem dX6_thesis_69 : decode cX6_thesis 69 = .ok (.aload_n 3, 1) := by decide +kernel
theorem dX6_thesis_70 : decode cX6_thesis 70 = .ok (.getfield 166, 3) := by decide +kernel
theorem dX6_thesis_73 : decode cX6_thesis 73 = .ok (.ireturn, 1) := by decide +kernel
theorem dX6_thesis_74 : decode cX6_thesis 74 = .ok (.aload_n 3, 1) := by decide +kernel
theorem dX6_thesis_75 : decode cX6_thesis 75 = .ok (.getfield 169, 3) := by decide +kernel
theorem dX6_thesis_78 : decode cX6_thesis 78 = .ok (.ireturn, 1) := by decide +kernel
theorem dX6_thesis_79 : decode cX6_thesis 79 = .ok (.aload_n 3, 1) := by decide +kernel
theorem dX6_thesis_80 : decode cX6_thesis 80 = .ok (.getfield 170, 3) := by decide +kernel
theorem dX6_thesis_83 : decode cX6_thesis 83 = .ok (.ireturn, 1) := by decide +kernel
theorem dX6_thesis_84 : decode cX6_thesis 84 = .ok (.aload_n 3, 1) := by decide +kernel
theorem dX6_thesis_85 : decode cX6_thesis 85 = .ok (.getfield 173, 3) := by decide +kernel
theorem dX6_thesis_88 : decode cX6_thesis 88 = .ok (.ireturn, 1) := by decide +kernel
theorem dX6_thesis_89 : decode cX6_thesis 89 = .ok (.aload_n 3, 1) := by decide +kernel
theorem dX6_thesis_90 : decode cX6_thesis 90 = .ok (.getfield 176, 3) := by decide +kernel
theorem dX6_thesis_93 : decode cX6_thesis 93 = .ok (.ireturn, 1) := by decide +kernel
theorem dX6_thesis_94 : decode cX6_thesis 94 = .ok (.aload_n 3, 1) := by decide +kernel
theorem dX6_thesis_95 : decode cX6_thesis 95 = .ok (.getfield 179, 3) := by decide +kernel
theorem dX6_thesis_98 : decode cX6_thesis 98 = .ok (.ireturn, 1) := by decide +kernel
theorem dX6_thesis_99 : decode cX6_thesis 99 = .ok (.aload_n 3, 1) := by decide +kernel
theorem dX6_thesis_100 : decode cX6_thesis 100 = .ok (.getfield 182, 3) := by decide +kernel
theorem dX6_thesis_103 : decode cX6_thesis 103 = .ok (.ireturn, 1) := by decide +kernel
theorem dX6_thesis_104 : decode cX6_thesis 104 = .ok (.aload_n 3, 1) := by decide +kernel
theorem dX6_thesis_105 : decode cX6_thesis 105 = .ok (.getfield 185, 3) := by decide +kernel
theorem dX6_thesis_108 : decode cX6_thesis 108 = .ok (.ireturn, 1) := by decide +kernel
theorem dX6_thesis_109 : decode cX6_thesis 109 = .ok (.aload_n 0, 1) := by decide +kernel
theorem dX6_thesis_110 : decode cX6_thesis 110 = .ok (.getfield 10, 3) := by decide +kernel
theorem dX6_thesis_113 : decode cX6_thesis 113 = .ok (.aload_n 3, 1) := by decide +kernel
theorem dX6_thesis_114 : decode cX6_thesis 114 = .ok (.invokevirtual 188, 3) := by decide +kernel
theorem dX6_thesis_117 : decode cX6_thesis 117 = .ok (.iconst (-1), 1) := by decide +kernel
theorem dX6_thesis_118 : decode cX6_thesis 118 = .ok (.if_icmp .ne 7, 3) := by decide +kernel
theorem dX6_thesis_121 : decode cX6_thesis 121 = .ok (.iconst 0, 1) := by decide +kernel
theorem dX6_thesis_122 : decode cX6_thesis 122 = .ok (.goto 4, 3) := by decide +kernel
theorem dX6_thesis_125 : decode cX6_thesis 125 = .ok (.iconst 1, 1) := by decide +kernel
theorem dX6_thesis_126 : decode cX6_thesis 126 = .ok (.ireturn, 1) := by decide +kernel
theorem dX6_thesis_127 : decode cX6_thesis 127 = .ok (.aload_n 3, 1) := by decide +kernel
theorem dX6_thesis_128 : decode cX6_thesis 128 = .ok (.invokevirtual 192, 3) := by decide +kernel
theorem dX6_thesis_131 : decode cX6_thesis 131 = .ok (.ireturn, 1) := by decide +kernel
theorem dX6_thesis_132 : decode cX6_thesis 132 = .ok (.new 60, 3) := by decide +kernel
theorem dX6_thesis_135 : decode cX6_thesis 135 = .ok (.dup, 1) := by decide +kernel
theorem dX6_thesis_136 : decode cX6_thesis 136 = .ok (.ldc 196, 2) := by decide +kernel
theorem dX6_thesis_138 : decode cX6_thesis 138 = .ok (.invokespecial 64, 3) := by decide +kernel
theorem dX6_thesis_141 : decode cX6_thesis 141 = .ok (.athrow, 1) := by decide +kernel
theorem dX6_join_0 : decode cX6_join 0 = .ok (.aload_n 0, 1) := by decide +kernel
theorem dX6_join_1 : decode cX6_join 1 = .ok (.iload_n 1, 1) := by decide +kernel
theorem dX6_join_2 : decode cX6_join 2 = .ok (.invokevirtual 157, 3) := by decide +kernel
theorem dX6_join_5 : decode cX6_join 5 = .ok (.astore_n 3, 1) := by decide +kernel
theorem dX6_join_6 : decode cX6_join 6 = .ok (.aload_n 0, 1) := by decide +kernel
theorem dX6_join_7 : decode cX6_join 7 = .ok (.iload_n 2, 1) := by decide +kernel
theorem dX6_join_8 : decode cX6_join 8 = .ok (.invokevirtual 80, 3) := by decide +kernel
theorem dX6_join_11 : decode cX6_join 11 = .ok (.astore 4, 2) := by decide +kernel
theorem dX6_join_13 : decode cX6_join 13 = .ok (.aload_n 0, 1) := by decide +kernel
theorem dX6_join_14 : decode cX6_join 14 = .ok (.aload_n 0, 1) := by decide +kernel
theorem dX6_join_15 : decode cX6_join 15 = .ok (.getfield 10, 3) := by decide +kernel
theorem dX6_join_18 : decode cX6_join 18 = .ok (.aload_n 3, 1) := by decide +kernel
theorem dX6_join_19 : decode cX6_join 19 = .ok (.aload_n 3, 1) := by decide +kernel
theorem dX6_join_20 : decode cX6_join 20 = .ok (.getfield 176, 3) := by decide +kernel
theorem dX6_join_23 : decode cX6_join 23 = .ok (.aload 4, 2) := by decide +kernel
theorem dX6_join_25 : decode cX6_join 25 = .ok (.invokevirtual 198, 3) := by decide +kernel
theorem dX6_join_28 : decode cX6_join 28 = .ok (.invokevirtual 202, 3) := by decide +kernel
theorem dX6_join_31 : decode cX6_join 31 = .ok (.aload_n 0, 1) := by decide +kernel
theorem dX6_join_32 : decode cX6_join 32 = .ok (.getfield 22, 3) := by decide +kernel
theorem dX6_join_35 : decode cX6_join 35 = .ok (.aload_n 0, 1) := by decide +kernel
theorem dX6_join_36 : decode cX6_join 36 = .ok (.getfield 10, 3) := by decide +kernel
theorem dX6_join_39 : decode cX6_join 39 = .ok (.invokevirtual 72, 3) := by decide +kernel
theorem dX6_join_42 : decode cX6_join 42 = .ok (.aload_n 3, 1) := by decide +kernel
theorem dX6_join_43 : decode cX6_join 43 = .ok (.dup, 1) := by decide +kernel
theorem dX6_join_44 : decode cX6_join 44 = .ok (.getfield 176, 3) := by decide +kernel
theorem dX6_join_47 : decode cX6_join 47 = .ok (.aload 4, 2) := by decide +kernel
theorem dX6_join_49 : decode cX6_join 49 = .ok (.invokevirtual 206, 3) := by decide +kernel
theorem dX6_join_52 : decode cX6_join 52 = .ok (.ior, 1) := by decide +kernel
theorem dX6_join_53 : decode cX6_join 53 = .ok (.putfield 176, 3) := by decide +kernel
theorem dX6_join_56 : decode cX6_join 56 = .ok (.aload_n 3, 1) := by decide +kernel
theorem dX6_join_57 : decode cX6_join 57 = .ok (.invokevirtual 209, 3) := by decide +kernel
theorem dX6_join_60 : decode cX6_join 60 = .ok (.ireturn, 1) := by decide +kernel
theorem dX6_leave_0 : decode cX6_leave 0 = .ok (.aload_n 0, 1) := by decide +kernel
theorem dX6_leave_1 : decode cX6_leave 1 = .ok (.iload_n 1, 1) := by decide +kernel
theorem dX6_leave_2 : decode cX6_leave 2 = .ok (.invokevirtual 157, 3) := by decide +kernel
theorem dX6_leave_5 : decode cX6_leave 5 = .ok (.astore_n 3, 1) := by decide +kernel
theorem dX6_leave_6 : decode cX6_leave 6 = .ok (.aload_n 0, 1) := by decide +kernel
theorem dX6_leave_7 : decode cX6_leave 7 = .ok (.iload_n 2, 1) := by decide +kernel
theorem dX6_leave_8 : decode cX6_leave 8 = .ok (.invokevirtual 80, 3) := by decide +kernel
theorem dX6_leave_11 : decode cX6_leave 11 = .ok (.astore 4, 2) := by decide +kernel
theorem dX6_leave_13 : decode cX6_leave 13 = .ok (.aload_n 0, 1) := by decide +kernel
theorem dX6_leave_14 : decode cX6_leave 14 = .ok (.getfield 10, 3) := by decide +kernel
theorem dX6_leave_17 : decode cX6_leave 17 = .ok (.aload_n 3, 1) := by decide +kernel
theorem dX6_leave_18 : decode cX6_leave 18 = .ok (.aload 4, 2) := by decide +kernel
theorem dX6_leave_20 : decode cX6_leave 20 = .ok (.invokevirtual 212, 3) := by decide +kernel
theorem dX6_leave_23 : decode cX6_leave 23 = .ok (.ifCond .ne 13, 3) := by decide +kernel
theorem dX6_leave_26 : decode cX6_leave 26 = .ok (.new 67, 3) := by decide +kernel
theorem dX6_leave_29 : decode cX6_leave 29 = .ok (.dup, 1) := by decide +kernel
theorem dX6_leave_30 : decode cX6_leave 30 = .ok (.ldc 216, 2) := by decide +kernel
theorem dX6_leave_32 : decode cX6_leave 32 = .ok (.invokespecial 71, 3) := by decide +kernel
theorem dX6_leave_35 : decode cX6_leave 35 = .ok (.athrow, 1) := by decide +kernel
theorem dX6_leave_36 : decode cX6_leave 36 = .ok (.aload_n 0, 1) := by decide +kernel
theorem dX6_leave_37 : decode cX6_leave 37 = .ok (.getfield 22, 3) := by decide +kernel
theorem dX6_leave_40 : decode cX6_leave 40 = .ok (.aload_n 0, 1) := by decide +kernel
theorem dX6_leave_41 : decode cX6_leave 41 = .ok (.getfield 10, 3) := by decide +kernel
theorem dX6_leave_44 : decode cX6_leave 44 = .ok (.invokevirtual 72, 3) := by decide +kernel
theorem dX6_leave_47 : decode cX6_leave 47 = .ok (.aload_n 3, 1) := by decide +kernel
theorem dX6_leave_48 : decode cX6_leave 48 = .ok (.dup, 1) := by decide +kernel
theorem dX6_leave_49 : decode cX6_leave 49 = .ok (.getfield 176, 3) := by decide +kernel
theorem dX6_leave_52 : decode cX6_leave 52 = .ok (.aload 4, 2) := by decide +kernel
theorem dX6_leave_54 : decode cX6_leave 54 = .ok (.invokevirtual 206, 3) := by decide +kernel
theorem dX6_leave_57 : decode cX6_leave 57 = .ok (.iconst (-1), 1) := by decide +kernel
theorem dX6_leave_58 : decode cX6_leave 58 = .ok (.ixor, 1) := by decide +kernel
theorem dX6_leave_59 : decode cX6_leave 59 = .ok (.iand, 1) := by decide +kernel
theorem dX6_leave_60 : decode cX6_leave 60 = .ok (.putfield 176, 3) := by decide +kernel
theorem dX6_leave_63 : decode cX6_leave 63 = .ok (.aload_n 0, 1) := by decide +kernel
theorem dX6_leave_64 : decode cX6_leave 64 = .ok (.getfield 10, 3) := by decide +kernel
theorem dX6_leave_67 : decode cX6_leave 67 = .ok (.aload_n 3, 1) := by decide +kernel
theorem dX6_leave_68 : decode cX6_leave 68 = .ok (.invokevirtual 218, 3) := by decide +kernel
theorem dX6_leave_71 : decode cX6_leave 71 = .ok (.pop, 1) := by decide +kernel
theorem dX6_leave_72 : decode cX6_leave 72 = .ok (.aload_n 3, 1) := by decide +kernel
theorem dX6_leave_73 : decode cX6_leave 73 = .ok (.invokevirtual 209, 3) := by decide +kernel
theorem dX6_leave_76 : decode cX6_leave 76 = .ok (.ireturn, 1) := by decide +kernel
theorem dX6_replace_0 : decode cX6_replace 0 = .ok (.aload_n 0, 1) := by decide +kernel
theorem dX6_replace_1 : decode cX6_replace 1 = .ok (.iload_n 1, 1) := by decide +kernel
theorem dX6_replace_2 : decode cX6_replace 2 = .ok (.invokevirtual 157, 3) := by decide +kernel
theorem dX6_replace_5 : decode cX6_replace 5 = .ok (.astore 4, 2) := by decide +kernel
theorem dX6_replace_7 : decode cX6_replace 7 = .ok (.aload_n 0, 1) := by decide +kernel
theorem dX6_replace_8 : decode cX6_replace 8 = .ok (.iload_n 2, 1) := by decide +kernel
theorem dX6_replace_9 : decode cX6_replace 9 = .ok (.invokevirtual 80, 3) := by decide +kernel
theorem dX6_replace_12 : decode cX6_replace 12 = .ok (.astore 5, 2) := by decide +kernel
theorem dX6_replace_14 : decode cX6_replace 14 = .ok (.aload_n 0, 1) := by decide +kernel
theorem dX6_replace_15 : decode cX6_replace 15 = .ok (.iload_n 3, 1) := by decide +kernel
theorem dX6_replace_16 : decode cX6_replace 16 = .ok (.invokevirtual 80, 3) := by decide +kernel
theorem dX6_replace_19 : decode cX6_replace 19 = .ok (.astore 6, 2) := by decide +kernel
theorem dX6_replace_21 : decode cX6_replace 21 = .ok (.aload 5, 2) := by decide +kernel
theorem dX6_replace_23 : decode cX6_replace 23 = .ok (.aload 4, 2) := by decide +kernel
theorem dX6_replace_25 : decode cX6_replace 25 = .ok (.invokestatic 222, 3) := by decide +kernel
theorem dX6_replace_28 : decode cX6_replace 28 = .ok (.aload 4, 2) := by decide +kernel
theorem dX6_replace_30 : decode cX6_replace 30 = .ok (.getfield 176, 3) := by decide +kernel
theorem dX6_replace_33 : decode cX6_replace 33 = .ok (.aload 5, 2) := by decide +kernel
theorem dX6_replace_35 : decode cX6_replace 35 = .ok (.invokevirtual 206, 3) := by decide +kernel
theorem dX6_replace_38 : decode cX6_replace 38 = .ok (.iconst (-1), 1) := by decide +kernel
theorem dX6_replace_39 : decode cX6_replace 39 = .ok (.ixor, 1) := by decide +kernel
theorem dX6_replace_40 : decode cX6_replace 40 = .ok (.iand, 1) := by decide +kernel
theorem dX6_replace_41 : decode cX6_replace 41 = .ok (.istore 7, 2) := by decide +kernel
theorem dX6_replace_43 : decode cX6_replace 43 = .ok (.aload_n 0, 1) := by decide +kernel
theorem dX6_replace_44 : decode cX6_replace 44 = .ok (.aload_n 0, 1) := by decide +kernel
theorem dX6_replace_45 : decode cX6_replace 45 = .ok (.getfield 10, 3) := by decide +kernel
theorem dX6_replace_48 : decode cX6_replace 48 = .ok (.aload 4, 2) := by decide +kernel
theorem dX6_replace_50 : decode cX6_replace 50 = .ok (.iload 7, 2) := by decide +kernel
theorem dX6_replace_52 : decode cX6_replace 52 = .ok (.aload 6, 2) := by decide +kernel
theorem dX6_replace_54 : decode cX6_replace 54 = .ok (.invokevirtual 198, 3) := by decide +kernel
theorem dX6_replace_57 : decode cX6_replace 57 = .ok (.invokevirtual 202, 3) := by decide +kernel
theorem dX6_replace_60 : decode cX6_replace 60 = .ok (.aload_n 0, 1) := by decide +kernel
theorem dX6_replace_61 : decode cX6_replace 61 = .ok (.getfield 22, 3) := by decide +kernel
theorem dX6_replace_64 : decode cX6_replace 64 = .ok (.aload_n 0, 1) := by decide +kernel
theorem dX6_replace_65 : decode cX6_replace 65 = .ok (.getfield 10, 3) := by decide +kernel
theorem dX6_replace_68 : decode cX6_replace 68 = .ok (.invokevirtual 72, 3) := by decide +kernel
theorem dX6_replace_71 : decode cX6_replace 71 = .ok (.aload 4, 2) := by decide +kernel
theorem dX6_replace_73 : decode cX6_replace 73 = .ok (.iload 7, 2) := by decide +kernel
theorem dX6_replace_75 : decode cX6_replace 75 = .ok (.aload 6, 2) := by decide +kernel
theorem dX6_replace_77 : decode cX6_replace 77 = .ok (.invokevirtual 206, 3) := by decide +kernel
theorem dX6_replace_80 : decode cX6_replace 80 = .ok (.ior, 1) := by decide +kernel
theorem dX6_replace_81 : decode cX6_replace 81 = .ok (.putfield 176, 3) := by decide +kernel
theorem dX6_replace_84 : decode cX6_replace 84 = .ok (.aload_n 0, 1) := by decide +kernel
theorem dX6_replace_85 : decode cX6_replace 85 = .ok (.getfield 10, 3) := by decide +kernel
theorem dX6_replace_88 : decode cX6_replace 88 = .ok (.aload 4, 2) := by decide +kernel
theorem dX6_replace_90 : decode cX6_replace 90 = .ok (.invokevirtual 218, 3) := by decide +kernel
theorem dX6_replace_93 : decode cX6_replace 93 = .ok (.ifCond .eq 7, 3) := by decide +kernel
theorem dX6_replace_96 : decode cX6_replace 96 = .ok (.iconst 1, 1) := by decide +kernel
theorem dX6_replace_97 : decode cX6_replace 97 = .ok (.goto 4, 3) := by decide +kernel
theorem dX6_replace_100 : decode cX6_replace 100 = .ok (.iconst 0, 1) := by decide +kernel
theorem dX6_replace_101 : decode cX6_replace 101 = .ok (.ireturn, 1) := by decide +kernel
theorem dX6_whyNotJoin_0 : decode cX6_whyNotJoin 0 = .ok (.aload_n 0, 1) := by decide +kernel
theorem dX6_whyNotJoin_1 : decode cX6_whyNotJoin 1 = .ok (.iload_n 1, 1) := by decide +kernel
theorem dX6_whyNotJoin_2 : decode cX6_whyNotJoin 2 = .ok (.invokevirtual 157, 3) := by decide +kernel
theorem dX6_whyNotJoin_5 : decode cX6_whyNotJoin 5 = .ok (.astore_n 3, 1) := by decide +kernel
theorem dX6_whyNotJoin_6 : decode cX6_whyNotJoin 6 = .ok (.aload_n 0, 1) := by decide +kernel
theorem dX6_whyNotJoin_7 : decode cX6_whyNotJoin 7 = .ok (.getfield 10, 3) := by decide +kernel
theorem dX6_whyNotJoin_10 : decode cX6_whyNotJoin 10 = .ok (.aload_n 3, 1) := by decide +kernel
theorem dX6_whyNotJoin_11 : decode cX6_whyNotJoin 11 = .ok (.aload_n 3, 1) := by decide +kernel
theorem dX6_whyNotJoin_12 : decode cX6_whyNotJoin 12 = .ok (.getfield 176, 3) := by decide +kernel
theorem dX6_whyNotJoin_15 : decode cX6_whyNotJoin 15 = .ok (.aload_n 0, 1) := by decide +kernel
theorem dX6_whyNotJoin_16 : decode cX6_whyNotJoin 16 = .ok (.iload_n 2, 1) := by decide +kernel
theorem dX6_whyNotJoin_17 : decode cX6_whyNotJoin 17 = .ok (.invokevirtual 80, 3) := by decide +kernel
theorem dX6_whyNotJoin_20 : decode cX6_whyNotJoin 20 = .ok (.invokevirtual 198, 3) := by decide +kernel
theorem dX6_whyNotJoin_23 : decode cX6_whyNotJoin 23 = .ok (.ireturn, 1) := by decide +kernel
theorem dX6_lacks_0 : decode cX6_lacks 0 = .ok (.aload_n 0, 1) := by decide +kernel
theorem dX6_lacks_1 : decode cX6_lacks 1 = .ok (.iload_n 1, 1) := by decide +kernel
theorem dX6_lacks_2 : decode cX6_lacks 2 = .ok (.invokevirtual 157, 3) := by decide +kernel
theorem dX6_lacks_5 : decode cX6_lacks 5 = .ok (.astore_n 3, 1) := by decide +kernel
theorem dX6_lacks_6 : decode cX6_lacks 6 = .ok (.iload_n 2, 1) := by decide +kernel
theorem dX6_lacks_7 : decode cX6_lacks 7 = .ok (.iconst 5, 1) := by decide +kernel
theorem dX6_lacks_8 : decode cX6_lacks 8 = .ok (.invokestatic 56, 3) := by decide +kernel
theorem dX6_lacks_11 : decode cX6_lacks 11 = .ok (.ifCond .ne 13, 3) := by decide +kernel
theorem dX6_lacks_14 : decode cX6_lacks 14 = .ok (.new 60, 3) := by decide +kernel
theorem dX6_lacks_17 : decode cX6_lacks 17 = .ok (.dup, 1) := by decide +kernel
theorem dX6_lacks_18 : decode cX6_lacks 18 = .ok (.ldc 226, 2) := by decide +kernel
theorem dX6_lacks_20 : decode cX6_lacks 20 = .ok (.invokespecial 64, 3) := by decide +kernel
theorem dX6_lacks_23 : decode cX6_lacks 23 = .ok (.athrow, 1) := by decide +kernel
theorem dX6_lacks_24 : decode cX6_lacks 24 = .ok (.aload_n 0, 1) := by decide +kernel
theorem dX6_lacks_25 : decode cX6_lacks 25 = .ok (.getfield 10, 3) := by decide +kernel
theorem dX6_lacks_28 : decode cX6_lacks 28 = .ok (.aload_n 3, 1) := by decide +kernel
theorem dX6_lacks_29 : decode cX6_lacks 29 = .ok (.iload_n 2, 1) := by decide +kernel
theorem dX6_lacks_30 : decode cX6_lacks 30 = .ok (.invokevirtual 228, 3) := by decide +kernel
theorem dX6_lacks_33 : decode cX6_lacks 33 = .ok (.ireturn, 1) := by decide +kernel
theorem dX6_replacements_0 : decode cX6_replacements 0 = .ok (.aload_n 0, 1) := by decide +kernel
theorem dX6_replacements_1 : decode cX6_replacements 1 = .ok (.iload_n 1, 1) := by decide +kernel
theorem dX6_replacements_2 : decode cX6_replacements 2 = .ok (.invokevirtual 157, 3) := by decide +kernel
theorem dX6_replacements_5 : decode cX6_replacements 5 = .ok (.astore_n 3, 1) := by decide +kernel
theorem dX6_replacements_6 : decode cX6_replacements 6 = .ok (.aload_n 0, 1) := by decide +kernel
theorem dX6_replacements_7 : decode cX6_replacements 7 = .ok (.iload_n 2, 1) := by decide +kernel
theorem dX6_replacements_8 : decode cX6_replacements 8 = .ok (.invokevirtual 80, 3) := by decide +kernel
theorem dX6_replacements_11 : decode cX6_replacements 11 = .ok (.astore 4, 2) := by decide +kernel
theorem dX6_replacements_13 : decode cX6_replacements 13 = .ok (.aload 4, 2) := by decide +kernel
theorem dX6_replacements_15 : decode cX6_replacements 15 = .ok (.aload_n 3, 1) := by decide +kernel
theorem dX6_replacements_16 : decode cX6_replacements 16 = .ok (.invokestatic 222, 3) := by decide +kernel
theorem dX6_replacements_19 : decode cX6_replacements 19 = .ok (.aload_n 0, 1) := by decide +kernel
theorem dX6_replacements_20 : decode cX6_replacements 20 = .ok (.getfield 10, 3) := by decide +kernel
theorem dX6_replacements_23 : decode cX6_replacements 23 = .ok (.aload_n 3, 1) := by decide +kernel
theorem dX6_replacements_24 : decode cX6_replacements 24 = .ok (.aload 4, 2) := by decide +kernel
theorem dX6_replacements_26 : decode cX6_replacements 26 = .ok (.invokevirtual 232, 3) := by decide +kernel
theorem dX6_replacements_29 : decode cX6_replacements 29 = .ok (.ireturn, 1) := by decide +kernel
theorem dX6_completion_0 : decode cX6_completion 0 = .ok (.aload_n 0, 1) := by decide +kernel
theorem dX6_completion_1 : decode cX6_completion 1 = .ok (.aload_n 0, 1) := by decide +kernel
theorem dX6_completion_2 : decode cX6_completion 2 = .ok (.iload_n 1, 1) := by decide +kernel
theorem dX6_completion_3 : decode cX6_completion 3 = .ok (.invokevirtual 157, 3) := by decide +kernel
theorem dX6_completion_6 : decode cX6_completion 6 = .ok (.invokevirtual 236, 3) := by decide +kernel
theorem dX6_completion_9 : decode cX6_completion 9 = .ok (.ireturn, 1) := by decide +kernel
theorem dX6_complete_0 : decode cX6_complete 0 = .ok (.aload_n 0, 1) := by decide +kernel
theorem dX6_complete_1 : decode cX6_complete 1 = .ok (.iload_n 1, 1) := by decide +kernel
theorem dX6_complete_2 : decode cX6_complete 2 = .ok (.invokevirtual 157, 3) := by decide +kernel
theorem dX6_complete_5 : decode cX6_complete 5 = .ok (.astore_n 2, 1) := by decide +kernel
theorem dX6_complete_6 : decode cX6_complete 6 = .ok (.aload_n 0, 1) := by decide +kernel
theorem dX6_complete_7 : decode cX6_complete 7 = .ok (.aload_n 2, 1) := by decide +kernel
theorem dX6_complete_8 : decode cX6_complete 8 = .ok (.invokevirtual 236, 3) := by decide +kernel
theorem dX6_complete_11 : decode cX6_complete 11 = .ok (.istore_n 3, 1) := by decide +kernel
theorem dX6_complete_12 : decode cX6_complete 12 = .ok (.aload_n 0, 1) := by decide +kernel
theorem dX6_complete_13 : decode cX6_complete 13 = .ok (.getfield 22, 3) := by decide +kernel
theorem dX6_complete_16 : decode cX6_complete 16 = .ok (.aload_n 0, 1) := by decide +kernel
theorem dX6_complete_17 : decode cX6_complete 17 = .ok (.getfield 10, 3) := by decide +kernel
theorem dX6_complete_20 : decode cX6_complete 20 = .ok (.invokevirtual 72, 3) := by decide +kernel
theorem dX6_complete_23 : decode cX6_complete 23 = .ok (.aload_n 2, 1) := by decide +kernel
theorem dX6_complete_24 : decode cX6_complete 24 = .ok (.dup, 1) := by decide +kernel
theorem dX6_complete_25 : decode cX6_complete 25 = .ok (.getfield 176, 3) := by decide +kernel
theorem dX6_complete_28 : decode cX6_complete 28 = .ok (.iload_n 3, 1) := by decide +kernel
theorem dX6_complete_29 : decode cX6_complete 29 = .ok (.ior, 1) := by decide +kernel
theorem dX6_complete_30 : decode cX6_complete 30 = .ok (.putfield 176, 3) := by decide +kernel
theorem dX6_complete_33 : decode cX6_complete 33 = .ok (.iload_n 3, 1) := by decide +kernel
theorem dX6_complete_34 : decode cX6_complete 34 = .ok (.invokestatic 239, 3) := by decide +kernel
theorem dX6_complete_37 : decode cX6_complete 37 = .ok (.ireturn, 1) := by decide +kernel
theorem dX6_reason_0 : decode cX6_reason 0 = .ok (.aload_n 0, 1) := by decide +kernel
theorem dX6_reason_1 : decode cX6_reason 1 = .ok (.getfield 40, 3) := by decide +kernel
theorem dX6_reason_4 : decode cX6_reason 4 = .ok (.iconst (-1), 1) := by decide +kernel
theorem dX6_reason_5 : decode cX6_reason 5 = .ok (.if_icmp .ne 13, 3) := by decide +kernel
theorem dX6_reason_8 : decode cX6_reason 8 = .ok (.new 142, 3) := by decide +kernel
theorem dX6_reason_11 : decode cX6_reason 11 = .ok (.dup, 1) := by decide +kernel
theorem dX6_reason_12 : decode cX6_reason 12 = .ok (.ldc 245, 2) := by decide +kernel
theorem dX6_reason_14 : decode cX6_reason 14 = .ok (.invokespecial 146, 3) := by decide +kernel
theorem dX6_reason_17 : decode cX6_reason 17 = .ok (.athrow, 1) := by decide +kernel
theorem dX6_reason_18 : decode cX6_reason 18 = .ok (.aload_n 0, 1) := by decide +kernel
theorem dX6_reason_19 : decode cX6_reason 19 = .ok (.getfield 40, 3) := by decide +kernel
theorem dX6_reason_22 : decode cX6_reason 22 = .ok (.ireturn, 1) := by decide +kernel
theorem dX6_place_0 : decode cX6_place 0 = .ok (.aload_n 0, 1) := by decide +kernel
theorem dX6_place_1 : decode cX6_place 1 = .ok (.iload_n 1, 1) := by decide +kernel
theorem dX6_place_2 : decode cX6_place 2 = .ok (.invokevirtual 157, 3) := by decide +kernel
theorem dX6_place_5 : decode cX6_place 5 = .ok (.astore 5, 2) := by decide +kernel
theorem dX6_place_7 : decode cX6_place 7 = .ok (.iload_n 2, 1) := by decide +kernel
theorem dX6_place_8 : decode cX6_place 8 = .ok (.invokestatic 247, 3) := by decide +kernel
theorem dX6_place_11 : decode cX6_place 11 = .ok (.iload_n 3, 1) := by decide +kernel
theorem dX6_place_12 : decode cX6_place 12 = .ok (.iload 4, 2) := by decide +kernel
theorem dX6_place_14 : decode cX6_place 14 = .ok (.bipush 6, 2) := by decide +kernel
theorem dX6_place_16 : decode cX6_place 16 = .ok (.invokestatic 99, 3) := by decide +kernel
theorem dX6_place_19 : decode cX6_place 19 = .ok (.aload_n 0, 1) := by decide +kernel
theorem dX6_place_20 : decode cX6_place 20 = .ok (.aload_n 0, 1) := by decide +kernel
theorem dX6_place_21 : decode cX6_place 21 = .ok (.getfield 10, 3) := by decide +kernel
theorem dX6_place_24 : decode cX6_place 24 = .ok (.aload 5, 2) := by decide +kernel
theorem dX6_place_26 : decode cX6_place 26 = .ok (.iload_n 2, 1) := by decide +kernel
theorem dX6_place_27 : decode cX6_place 27 = .ok (.iload_n 3, 1) := by decide +kernel
theorem dX6_place_28 : decode cX6_place 28 = .ok (.iload 4, 2) := by decide +kernel
theorem dX6_place_30 : decode cX6_place 30 = .ok (.invokevirtual 250, 3) := by decide +kernel
theorem dX6_place_33 : decode cX6_place 33 = .ok (.invokevirtual 202, 3) := by decide +kernel
theorem dX6_place_36 : decode cX6_place 36 = .ok (.aload_n 0, 1) := by decide +kernel
theorem dX6_place_37 : decode cX6_place 37 = .ok (.getfield 22, 3) := by decide +kernel
theorem dX6_place_40 : decode cX6_place 40 = .ok (.aload_n 0, 1) := by decide +kernel
theorem dX6_place_41 : decode cX6_place 41 = .ok (.getfield 10, 3) := by decide +kernel
theorem dX6_place_44 : decode cX6_place 44 = .ok (.invokevirtual 72, 3) := by decide +kernel
theorem dX6_place_47 : decode cX6_place 47 = .ok (.aload 5, 2) := by decide +kernel
theorem dX6_place_49 : decode cX6_place 49 = .ok (.iload_n 2, 1) := by decide +kernel
theorem dX6_place_50 : decode cX6_place 50 = .ok (.iload_n 3, 1) := by decide +kernel
theorem dX6_place_51 : decode cX6_place 51 = .ok (.iload 4, 2) := by decide +kernel
theorem dX6_place_53 : decode cX6_place 53 = .ok (.invokevirtual 254, 3) := by decide +kernel
theorem dX6_place_56 : decode cX6_place 56 = .ok (.aload 5, 2) := by decide +kernel
theorem dX6_place_58 : decode cX6_place 58 = .ok (.invokevirtual 257, 3) := by decide +kernel
theorem dX6_place_61 : decode cX6_place 61 = .ok (.ireturn, 1) := by decide +kernel
theorem dX6_takeBack_0 : decode cX6_takeBack 0 = .ok (.aload_n 0, 1) := by decide +kernel
theorem dX6_takeBack_1 : decode cX6_takeBack 1 = .ok (.iload_n 1, 1) := by decide +kernel
theorem dX6_takeBack_2 : decode cX6_takeBack 2 = .ok (.invokevirtual 157, 3) := by decide +kernel
theorem dX6_takeBack_5 : decode cX6_takeBack 5 = .ok (.astore_n 2, 1) := by decide +kernel
theorem dX6_takeBack_6 : decode cX6_takeBack 6 = .ok (.aload_n 2, 1) := by decide +kernel
theorem dX6_takeBack_7 : decode cX6_takeBack 7 = .ok (.invokevirtual 260, 3) := by decide +kernel
theorem dX6_takeBack_10 : decode cX6_takeBack 10 = .ok (.ifCond .eq 10, 3) := by decide +kernel
theorem dX6_takeBack_13 : decode cX6_takeBack 13 = .ok (.aload_n 2, 1) := by decide +kernel
theorem dX6_takeBack_14 : decode cX6_takeBack 14 = .ok (.invokevirtual 264, 3) := by decide +kernel
theorem dX6_takeBack_17 : decode cX6_takeBack 17 = .ok (.ifCond .eq 14, 3) := by decide +kernel
theorem dX6_takeBack_20 : decode cX6_takeBack 20 = .ok (.new 67, 3) := by decide +kernel
theorem dX6_takeBack_23 : decode cX6_takeBack 23 = .ok (.dup, 1) := by decide +kernel
theorem dX6_takeBack_24 : decode cX6_takeBack 24 = .ok (.ldc_w 267, 3) := by decide +kernel
theorem dX6_takeBack_27 : decode cX6_takeBack 27 = .ok (.invokespecial 71, 3) := by decide +kernel
theorem dX6_takeBack_30 : decode cX6_takeBack 30 = .ok (.athrow, 1) := by decide +kernel
theorem dX6_takeBack_31 : decode cX6_takeBack 31 = .ok (.aload_n 0, 1) := by decide +kernel
theorem dX6_takeBack_32 : decode cX6_takeBack 32 = .ok (.getfield 22, 3) := by decide +kernel
theorem dX6_takeBack_35 : decode cX6_takeBack 35 = .ok (.aload_n 0, 1) := by decide +kernel
theorem dX6_takeBack_36 : decode cX6_takeBack 36 = .ok (.getfield 10, 3) := by decide +kernel
theorem dX6_takeBack_39 : decode cX6_takeBack 39 = .ok (.invokevirtual 72, 3) := by decide +kernel
theorem dX6_takeBack_42 : decode cX6_takeBack 42 = .ok (.aload_n 2, 1) := by decide +kernel
theorem dX6_takeBack_43 : decode cX6_takeBack 43 = .ok (.getfield 182, 3) := by decide +kernel
theorem dX6_takeBack_46 : decode cX6_takeBack 46 = .ok (.istore_n 3, 1) := by decide +kernel
theorem dX6_takeBack_47 : decode cX6_takeBack 47 = .ok (.aload_n 2, 1) := by decide +kernel
theorem dX6_takeBack_48 : decode cX6_takeBack 48 = .ok (.invokevirtual 269, 3) := by decide +kernel
theorem dX6_takeBack_51 : decode cX6_takeBack 51 = .ok (.iload_n 3, 1) := by decide +kernel
theorem dX6_takeBack_52 : decode cX6_takeBack 52 = .ok (.ireturn, 1) := by decide +kernel
theorem dX6_whyNotPlace_0 : decode cX6_whyNotPlace 0 = .ok (.aload_n 0, 1) := by decide +kernel
theorem dX6_whyNotPlace_1 : decode cX6_whyNotPlace 1 = .ok (.iload_n 1, 1) := by decide +kernel
theorem dX6_whyNotPlace_2 : decode cX6_whyNotPlace 2 = .ok (.invokevirtual 157, 3) := by decide +kernel
theorem dX6_whyNotPlace_5 : decode cX6_whyNotPlace 5 = .ok (.astore 5, 2) := by decide +kernel
theorem dX6_whyNotPlace_7 : decode cX6_whyNotPlace 7 = .ok (.iload_n 2, 1) := by decide +kernel
theorem dX6_whyNotPlace_8 : decode cX6_whyNotPlace 8 = .ok (.invokestatic 247, 3) := by decide +kernel
