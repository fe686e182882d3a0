theorem dX0_init_0 : decode cX0_init 0 = .ok (.aload_n 0, 1) := by decide +kernel
theorem dX0_init_1 : decode cX0_init 1 = .ok (.invokespecial 3, 3) := by decide +kernel
theorem dX0_init_4 : decode cX0_init 4 = .ok (.aload_n 0, 1) := by decide +kernel
theorem dX0_init_5 : decode cX0_init 5 = .ok (.iconst 5, 1) := by decide +kernel
theorem dX0_init_6 : decode cX0_init 6 = .ok (.newarray .int, 2) := by decide +kernel
theorem dX0_init_8 : decode cX0_init 8 = .ok (.putfield 9, 3) := by decide +kernel
theorem dX0_init_11 : decode cX0_init 11 = .ok (.return_, 1) := by decide +kernel
theorem dX0_find_0 : decode cX0_find 0 = .ok (.iconst 0, 1) := by decide +kernel
theorem dX0_find_1 : decode cX0_find 1 = .ok (.istore_n 3, 1) := by decide +kernel
theorem dX0_find_2 : decode cX0_find 2 = .ok (.iload_n 3, 1) := by decide +kernel
theorem dX0_find_3 : decode cX0_find 3 = .ok (.iconst 5, 1) := by decide +kernel
theorem dX0_find_4 : decode cX0_find 4 = .ok (.if_icmp .ge 21, 3) := by decide +kernel
theorem dX0_find_7 : decode cX0_find 7 = .ok (.aload_n 0, 1) := by decide +kernel
theorem dX0_find_8 : decode cX0_find 8 = .ok (.getfield 9, 3) := by decide +kernel
theorem dX0_find_11 : decode cX0_find 11 = .ok (.iload_n 3, 1) := by decide +kernel
theorem dX0_find_12 : decode cX0_find 12 = .ok (.aload_n 1, 1) := by decide +kernel
theorem dX0_find_13 : decode cX0_find 13 = .ok (.aload_n 2, 1) := by decide +kernel
theorem dX0_find_14 : decode cX0_find 14 = .ok (.iload_n 3, 1) := by decide +kernel
theorem dX0_find_15 : decode cX0_find 15 = .ok (.invokevirtual 15, 3) := by decide +kernel
theorem dX0_find_18 : decode cX0_find 18 = .ok (.iastore, 1) := by decide +kernel
theorem dX0_find_19 : decode cX0_find 19 = .ok (.iinc 3 1, 3) := by decide +kernel
theorem dX0_find_22 : decode cX0_find 22 = .ok (.goto (-20), 3) := by decide +kernel
theorem dX0_find_25 : decode cX0_find 25 = .ok (.aload_n 1, 1) := by decide +kernel
theorem dX0_find_26 : decode cX0_find 26 = .ok (.aload_n 2, 1) := by decide +kernel
theorem dX0_find_27 : decode cX0_find 27 = .ok (.aload_n 2, 1) := by decide +kernel
theorem dX0_find_28 : decode cX0_find 28 = .ok (.getfield 21, 3) := by decide +kernel
theorem dX0_find_31 : decode cX0_find 31 = .ok (.invokevirtual 27, 3) := by decide +kernel
theorem dX0_find_34 : decode cX0_find 34 = .ok (.istore_n 3, 1) := by decide +kernel
theorem dX0_find_35 : decode cX0_find 35 = .ok (.aload_n 2, 1) := by decide +kernel
theorem dX0_find_36 : decode cX0_find 36 = .ok (.invokevirtual 30, 3) := by decide +kernel
theorem dX0_find_39 : decode cX0_find 39 = .ok (.aload_n 2, 1) := by decide +kernel
theorem dX0_find_40 : decode cX0_find 40 = .ok (.invokevirtual 34, 3) := by decide +kernel
theorem dX0_find_43 : decode cX0_find 43 = .ok (.isub, 1) := by decide +kernel
theorem dX0_find_44 : decode cX0_find 44 = .ok (.istore 4, 2) := by decide +kernel
theorem dX0_find_46 : decode cX0_find 46 = .ok (.iconst 0, 1) := by decide +kernel
theorem dX0_find_47 : decode cX0_find 47 = .ok (.istore 5, 2) := by decide +kernel
theorem dX0_find_49 : decode cX0_find 49 = .ok (.iload 5, 2) := by decide +kernel
theorem dX0_find_51 : decode cX0_find 51 = .ok (.iload 4, 2) := by decide +kernel
theorem dX0_find_53 : decode cX0_find 53 = .ok (.if_icmp .gt 30, 3) := by decide +kernel
theorem dX0_find_56 : decode cX0_find 56 = .ok (.aload_n 0, 1) := by decide +kernel
theorem dX0_find_57 : decode cX0_find 57 = .ok (.aload_n 1, 1) := by decide +kernel
theorem dX0_find_58 : decode cX0_find 58 = .ok (.aload_n 2, 1) := by decide +kernel
theorem dX0_find_59 : decode cX0_find 59 = .ok (.iconst 0, 1) := by decide +kernel
theorem dX0_find_60 : decode cX0_find 60 = .ok (.iload_n 3, 1) := by decide +kernel
theorem dX0_find_61 : decode cX0_find 61 = .ok (.iload 5, 2) := by decide +kernel
theorem dX0_find_63 : decode cX0_find 63 = .ok (.invokestatic 37, 3) := by decide +kernel
theorem dX0_find_66 : decode cX0_find 66 = .ok (.istore 6, 2) := by decide +kernel
theorem dX0_find_68 : decode cX0_find 68 = .ok (.iload 6, 2) := by decide +kernel
theorem dX0_find_70 : decode cX0_find 70 = .ok (.iconst (-1), 1) := by decide +kernel
theorem dX0_find_71 : decode cX0_find 71 = .ok (.if_icmp .eq 6, 3) := by decide +kernel
theorem dX0_find_74 : decode cX0_find 74 = .ok (.iload 6, 2) := by decide +kernel
theorem dX0_find_76 : decode cX0_find 76 = .ok (.ireturn, 1) := by decide +kernel
theorem dX0_find_77 : decode cX0_find 77 = .ok (.iinc 5 1, 3) := by decide +kernel
theorem dX0_find_80 : decode cX0_find 80 = .ok (.goto (-31), 3) := by decide +kernel
theorem dX0_find_83 : decode cX0_find 83 = .ok (.iconst (-1), 1) := by decide +kernel
theorem dX0_find_84 : decode cX0_find 84 = .ok (.ireturn, 1) := by decide +kernel
theorem dX0_choose_0 : decode cX0_choose 0 = .ok (.aload_n 0, 1) := by decide +kernel
theorem dX0_choose_1 : decode cX0_choose 1 = .ok (.aload_n 2, 1) := by decide +kernel
theorem dX0_choose_2 : decode cX0_choose 2 = .ok (.aload_n 2, 1) := by decide +kernel
theorem dX0_choose_3 : decode cX0_choose 3 = .ok (.getfield 21, 3) := by decide +kernel
theorem dX0_choose_6 : decode cX0_choose 6 = .ok (.iload_n 3, 1) := by decide +kernel
theorem dX0_choose_7 : decode cX0_choose 7 = .ok (.ior, 1) := by decide +kernel
theorem dX0_choose_8 : decode cX0_choose 8 = .ok (.iload 4, 2) := by decide +kernel
theorem dX0_choose_10 : decode cX0_choose 10 = .ok (.iload 5, 2) := by decide +kernel
theorem dX0_choose_12 : decode cX0_choose 12 = .ok (.invokevirtual 41, 3) := by decide +kernel
theorem dX0_choose_15 : decode cX0_choose 15 = .ok (.ifCond .eq 5, 3) := by decide +kernel
theorem dX0_choose_18 : decode cX0_choose 18 = .ok (.iconst (-1), 1) := by decide +kernel
theorem dX0_choose_19 : decode cX0_choose 19 = .ok (.ireturn, 1) := by decide +kernel
theorem dX0_choose_20 : decode cX0_choose 20 = .ok (.iload 5, 2) := by decide +kernel
theorem dX0_choose_22 : decode cX0_choose 22 = .ok (.ifCond .gt 5, 3) := by decide +kernel
theorem dX0_choose_25 : decode cX0_choose 25 = .ok (.iload_n 3, 1) := by decide +kernel
theorem dX0_choose_26 : decode cX0_choose 26 = .ok (.ireturn, 1) := by decide +kernel
theorem dX0_choose_27 : decode cX0_choose 27 = .ok (.iload 4, 2) := by decide +kernel
theorem dX0_choose_29 : decode cX0_choose 29 = .ok (.istore 6, 2) := by decide +kernel
theorem dX0_choose_31 : decode cX0_choose 31 = .ok (.aload_n 1, 1) := by decide +kernel
theorem dX0_choose_32 : decode cX0_choose 32 = .ok (.getfield 45, 3) := by decide +kernel
theorem dX0_choose_35 : decode cX0_choose 35 = .ok (.astore 7, 2) := by decide +kernel
theorem dX0_choose_37 : decode cX0_choose 37 = .ok (.aload 7, 2) := by decide +kernel
theorem dX0_choose_39 : decode cX0_choose 39 = .ok (.arraylength, 1) := by decide +kernel
theorem dX0_choose_40 : decode cX0_choose 40 = .ok (.istore 8, 2) := by decide +kernel
theorem dX0_choose_42 : decode cX0_choose 42 = .ok (.iconst 0, 1) := by decide +kernel
theorem dX0_choose_43 : decode cX0_choose 43 = .ok (.istore 9, 2) := by decide +kernel
theorem dX0_choose_45 : decode cX0_choose 45 = .ok (.iload 9, 2) := by decide +kernel
theorem dX0_choose_47 : decode cX0_choose 47 = .ok (.iload 8, 2) := by decide +kernel
theorem dX0_choose_49 : decode cX0_choose 49 = .ok (.if_icmp .ge 76, 3) := by decide +kernel
theorem dX0_choose_52 : decode cX0_choose 52 = .ok (.aload 7, 2) := by decide +kernel
theorem dX0_choose_54 : decode cX0_choose 54 = .ok (.iload 9, 2) := by decide +kernel
theorem dX0_choose_56 : decode cX0_choose 56 = .ok (.aaload, 1) := by decide +kernel
theorem dX0_choose_57 : decode cX0_choose 57 = .ok (.astore 10, 2) := by decide +kernel
theorem dX0_choose_59 : decode cX0_choose 59 = .ok (.aload 10, 2) := by decide +kernel
theorem dX0_choose_61 : decode cX0_choose 61 = .ok (.iload 6, 2) := by decide +kernel
theorem dX0_choose_63 : decode cX0_choose 63 = .ok (.invokevirtual 49, 3) := by decide +kernel
theorem dX0_choose_66 : decode cX0_choose 66 = .ok (.ifCond .eq 53, 3) := by decide +kernel
theorem dX0_choose_69 : decode cX0_choose 69 = .ok (.iload 6, 2) := by decide +kernel
theorem dX0_choose_71 : decode cX0_choose 71 = .ok (.aload 10, 2) := by decide +kernel
theorem dX0_choose_73 : decode cX0_choose 73 = .ok (.invokevirtual 55, 3) := by decide +kernel
theorem dX0_choose_76 : decode cX0_choose 76 = .ok (.iconst (-1), 1) := by decide +kernel
theorem dX0_choose_77 : decode cX0_choose 77 = .ok (.ixor, 1) := by decide +kernel
theorem dX0_choose_78 : decode cX0_choose 78 = .ok (.iand, 1) := by decide +kernel
theorem dX0_choose_79 : decode cX0_choose 79 = .ok (.istore 6, 2) := by decide +kernel
theorem dX0_choose_81 : decode cX0_choose 81 = .ok (.aload_n 0, 1) := by decide +kernel
theorem dX0_choose_82 : decode cX0_choose 82 = .ok (.aload_n 1, 1) := by decide +kernel
theorem dX0_choose_83 : decode cX0_choose 83 = .ok (.aload_n 2, 1) := by decide +kernel
theorem dX0_choose_84 : decode cX0_choose 84 = .ok (.iload_n 3, 1) := by decide +kernel
theorem dX0_choose_85 : decode cX0_choose 85 = .ok (.aload 10, 2) := by decide +kernel
theorem dX0_choose_87 : decode cX0_choose 87 = .ok (.invokevirtual 55, 3) := by decide +kernel
theorem dX0_choose_90 : decode cX0_choose 90 = .ok (.ior, 1) := by decide +kernel
theorem dX0_choose_91 : decode cX0_choose 91 = .ok (.iload 6, 2) := by decide +kernel
theorem dX0_choose_93 : decode cX0_choose 93 = .ok (.aload 10, 2) := by decide +kernel
theorem dX0_choose_95 : decode cX0_choose 95 = .ok (.getfield 58, 3) := by decide +kernel
theorem dX0_choose_98 : decode cX0_choose 98 = .ok (.iconst (-1), 1) := by decide +kernel
theorem dX0_choose_99 : decode cX0_choose 99 = .ok (.ixor, 1) := by decide +kernel
theorem dX0_choose_100 : decode cX0_choose 100 = .ok (.iand, 1) := by decide +kernel
theorem dX0_choose_101 : decode cX0_choose 101 = .ok (.iload 5, 2) := by decide +kernel
theorem dX0_choose_103 : decode cX0_choose 103 = .ok (.iconst 1, 1) := by decide +kernel
theorem dX0_choose_104 : decode cX0_choose 104 = .ok (.isub, 1) := by decide +kernel
theorem dX0_choose_105 : decode cX0_choose 105 = .ok (.invokestatic 37, 3) := by decide +kernel
theorem dX0_choose_108 : decode cX0_choose 108 = .ok (.istore 11, 2) := by decide +kernel
theorem dX0_choose_110 : decode cX0_choose 110 = .ok (.iload 11, 2) := by decide +kernel
theorem dX0_choose_112 : decode cX0_choose 112 = .ok (.iconst (-1), 1) := by decide +kernel
theorem dX0_choose_113 : decode cX0_choose 113 = .ok (.if_icmp .eq 6, 3) := by decide +kernel
theorem dX0_choose_116 : decode cX0_choose 116 = .ok (.iload 11, 2) := by decide +kernel
theorem dX0_choose_118 : decode cX0_choose 118 = .ok (.ireturn, 1) := by decide +kernel
theorem dX0_choose_119 : decode cX0_choose 119 = .ok (.iinc 9 1, 3) := by decide +kernel
theorem dX0_choose_122 : decode cX0_choose 122 = .ok (.goto (-77), 3) := by decide +kernel
theorem dX0_choose_125 : decode cX0_choose 125 = .ok (.iconst (-1), 1) := by decide +kernel
theorem dX0_choose_126 : decode cX0_choose 126 = .ok (.ireturn, 1) := by decide +kernel
theorem dX0_isHopeless_0 : decode cX0_isHopeless 0 = .ok (.iload_n 3, 1) := by decide +kernel
theorem dX0_isHopeless_1 : decode cX0_isHopeless 1 = .ok (.invokestatic 61, 3) := by decide +kernel
theorem dX0_isHopeless_4 : decode cX0_isHopeless 4 = .ok (.iload 4, 2) := by decide +kernel
theorem dX0_isHopeless_6 : decode cX0_isHopeless 6 = .ok (.if_icmp .ge 5, 3) := by decide +kernel
theorem dX0_isHopeless_9 : decode cX0_isHopeless 9 = .ok (.iconst 1, 1) := by decide +kernel
theorem dX0_isHopeless_10 : decode cX0_isHopeless 10 = .ok (.ireturn, 1) := by decide +kernel
theorem dX0_isHopeless_11 : decode cX0_isHopeless 11 = .ok (.iconst 0, 1) := by decide +kernel
theorem dX0_isHopeless_12 : decode cX0_isHopeless 12 = .ok (.istore 5, 2) := by decide +kernel
theorem dX0_isHopeless_14 : decode cX0_isHopeless 14 = .ok (.iload 5, 2) := by decide +kernel
theorem dX0_isHopeless_16 : decode cX0_isHopeless 16 = .ok (.iconst 5, 1) := by decide +kernel
theorem dX0_isHopeless_17 : decode cX0_isHopeless 17 = .ok (.if_icmp .ge 56, 3) := by decide +kernel
theorem dX0_isHopeless_20 : decode cX0_isHopeless 20 = .ok (.aload_n 1, 1) := by decide +kernel
theorem dX0_isHopeless_21 : decode cX0_isHopeless 21 = .ok (.iload 5, 2) := by decide +kernel
theorem dX0_isHopeless_23 : decode cX0_isHopeless 23 = .ok (.invokevirtual 67, 3) := by decide +kernel
theorem dX0_isHopeless_26 : decode cX0_isHopeless 26 = .ok (.aload_n 0, 1) := by decide +kernel
theorem dX0_isHopeless_27 : decode cX0_isHopeless 27 = .ok (.getfield 9, 3) := by decide +kernel
theorem dX0_isHopeless_30 : decode cX0_isHopeless 30 = .ok (.iload 5, 2) := by decide +kernel
theorem dX0_isHopeless_32 : decode cX0_isHopeless 32 = .ok (.iaload, 1) := by decide +kernel
theorem dX0_isHopeless_33 : decode cX0_isHopeless 33 = .ok (.iload_n 2, 1) := by decide +kernel
theorem dX0_isHopeless_34 : decode cX0_isHopeless 34 = .ok (.iand, 1) := by decide +kernel
theorem dX0_isHopeless_35 : decode cX0_isHopeless 35 = .ok (.invokestatic 61, 3) := by decide +kernel
theorem dX0_isHopeless_38 : decode cX0_isHopeless 38 = .ok (.isub, 1) := by decide +kernel
theorem dX0_isHopeless_39 : decode cX0_isHopeless 39 = .ok (.istore 6, 2) := by decide +kernel
theorem dX0_isHopeless_41 : decode cX0_isHopeless 41 = .ok (.iload 6, 2) := by decide +kernel
theorem dX0_isHopeless_43 : decode cX0_isHopeless 43 = .ok (.iload 4, 2) := by decide +kernel
theorem dX0_isHopeless_45 : decode cX0_isHopeless 45 = .ok (.if_icmp .gt 20, 3) := by decide +kernel
theorem dX0_isHopeless_48 : decode cX0_isHopeless 48 = .ok (.iload 6, 2) := by decide +kernel
theorem dX0_isHopeless_50 : decode cX0_isHopeless 50 = .ok (.aload_n 0, 1) := by decide +kernel
theorem dX0_isHopeless_51 : decode cX0_isHopeless 51 = .ok (.getfield 9, 3) := by decide +kernel
theorem dX0_isHopeless_54 : decode cX0_isHopeless 54 = .ok (.iload 5, 2) := by decide +kernel
theorem dX0_isHopeless_56 : decode cX0_isHopeless 56 = .ok (.iaload, 1) := by decide +kernel
theorem dX0_isHopeless_57 : decode cX0_isHopeless 57 = .ok (.iload_n 3, 1) := by decide +kernel
theorem dX0_isHopeless_58 : decode cX0_isHopeless 58 = .ok (.iand, 1) := by decide +kernel
theorem dX0_isHopeless_59 : decode cX0_isHopeless 59 = .ok (.invokestatic 61, 3) := by decide +kernel
theorem dX0_isHopeless_62 : decode cX0_isHopeless 62 = .ok (.if_icmp .le 5, 3) := by decide +kernel
theorem dX0_isHopeless_65 : decode cX0_isHopeless 65 = .ok (.iconst 1, 1) := by decide +kernel
theorem dX0_isHopeless_66 : decode cX0_isHopeless 66 = .ok (.ireturn, 1) := by decide +kernel
theorem dX0_isHopeless_67 : decode cX0_isHopeless 67 = .ok (.iinc 5 1, 3) := by decide +kernel
theorem dX0_isHopeless_70 : decode cX0_isHopeless 70 = .ok (.goto (-56), 3) := by decide +kernel
theorem dX0_isHopeless_73 : decode cX0_isHopeless 73 = .ok (.iconst 0, 1) := by decide +kernel
theorem dX0_isHopeless_74 : decode cX0_isHopeless 74 = .ok (.ireturn, 1) := by decide +kernel
theorem dX1_init_0 : decode cX1_init 0 = .ok (.aload_n 0, 1) := by decide +kernel
theorem dX1_init_1 : decode cX1_init 1 = .ok (.invokespecial 3, 3) := by decide +kernel
theorem dX1_init_4 : decode cX1_init 4 = .ok (.aload_n 0, 1) := by decide +kernel
theorem dX1_init_5 : decode cX1_init 5 = .ok (.bipush 7, 2) := by decide +kernel
theorem dX1_init_7 : decode cX1_init 7 = .ok (.anewarray 11, 3) := by decide +kernel
theorem dX1_init_10 : decode cX1_init 10 = .ok (.putfield 13, 3) := by decide +kernel
theorem dX1_init_13 : decode cX1_init 13 = .ok (.iconst 0, 1) := by decide +kernel
theorem dX1_init_14 : decode cX1_init 14 = .ok (.istore_n 1, 1) := by decide +kernel
theorem dX1_init_15 : decode cX1_init 15 = .ok (.iload_n 1, 1) := by decide +kernel
theorem dX1_init_16 : decode cX1_init 16 = .ok (.aload_n 0, 1) := by decide +kernel
theorem dX1_init_17 : decode cX1_init 17 = .ok (.getfield 13, 3) := by decide +kernel
theorem dX1_init_20 : decode cX1_init 20 = .ok (.arraylength, 1) := by decide +kernel
theorem dX1_init_21 : decode cX1_init 21 = .ok (.if_icmp .ge 22, 3) := by decide +kernel
theorem dX1_init_24 : decode cX1_init 24 = .ok (.aload_n 0, 1) := by decide +kernel
theorem dX1_init_25 : decode cX1_init 25 = .ok (.getfield 13, 3) := by decide +kernel
theorem dX1_init_28 : decode cX1_init 28 = .ok (.iload_n 1, 1) := by decide +kernel
theorem dX1_init_29 : decode cX1_init 29 = .ok (.new 11, 3) := by decide +kernel
theorem dX1_init_32 : decode cX1_init 32 = .ok (.dup, 1) := by decide +kernel
theorem dX1_init_33 : decode cX1_init 33 = .ok (.invokespecial 17, 3) := by decide +kernel
theorem dX1_init_36 : decode cX1_init 36 = .ok (.aastore, 1) := by decide +kernel
theorem dX1_init_37 : decode cX1_init 37 = .ok (.iinc 1 1, 3) := by decide +kernel
theorem dX1_init_40 : decode cX1_init 40 = .ok (.goto (-25), 3) := by decide +kernel
theorem dX1_init_43 : decode cX1_init 43 = .ok (.return_, 1) := by decide +kernel
theorem dX1_forget_0 : decode cX1_forget 0 = .ok (.aload_n 0, 1) := by decide +kernel
theorem dX1_forget_1 : decode cX1_forget 1 = .ok (.iconst 0, 1) := by decide +kernel
theorem dX1_forget_2 : decode cX1_forget 2 = .ok (.putfield 18, 3) := by decide +kernel
theorem dX1_forget_5 : decode cX1_forget 5 = .ok (.return_, 1) := by decide +kernel
theorem dX1_remember_0 : decode cX1_remember 0 = .ok (.aload_n 0, 1) := by decide +kernel
theorem dX1_remember_1 : decode cX1_remember 1 = .ok (.aload_n 1, 1) := by decide +kernel
theorem dX1_remember_2 : decode cX1_remember 2 = .ok (.invokevirtual 22, 3) := by decide +kernel
theorem dX1_remember_5 : decode cX1_remember 5 = .ok (.aload_n 0, 1) := by decide +kernel
theorem dX1_remember_6 : decode cX1_remember 6 = .ok (.invokevirtual 26, 3) := by decide +kernel
theorem dX1_remember_9 : decode cX1_remember 9 = .ok (.return_, 1) := by decide +kernel
theorem dX1_prepare_0 : decode cX1_prepare 0 = .ok (.aload_n 0, 1) := by decide +kernel
theorem dX1_prepare_1 : decode cX1_prepare 1 = .ok (.getfield 13, 3) := by decide +kernel
theorem dX1_prepare_4 : decode cX1_prepare 4 = .ok (.aload_n 0, 1) := by decide +kernel
theorem dX1_prepare_5 : decode cX1_prepare 5 = .ok (.invokevirtual 29, 3) := by decide +kernel
theorem dX1_prepare_8 : decode cX1_prepare 8 = .ok (.aaload, 1) := by decide +kernel
theorem dX1_prepare_9 : decode cX1_prepare 9 = .ok (.aload_n 1, 1) := by decide +kernel
theorem dX1_prepare_10 : decode cX1_prepare 10 = .ok (.invokevirtual 33, 3) := by decide +kernel
theorem dX1_prepare_13 : decode cX1_prepare 13 = .ok (.return_, 1) := by decide +kernel
theorem dX1_keep_0 : decode cX1_keep 0 = .ok (.aload_n 0, 1) := by decide +kernel
theorem dX1_keep_1 : decode cX1_keep 1 = .ok (.getfield 18, 3) := by decide +kernel
theorem dX1_keep_4 : decode cX1_keep 4 = .ok (.bipush 6, 2) := by decide +kernel
theorem dX1_keep_6 : decode cX1_keep 6 = .ok (.if_icmp .ge 16, 3) := by decide +kernel
theorem dX1_keep_9 : decode cX1_keep 9 = .ok (.aload_n 0, 1) := by decide +kernel
theorem dX1_keep_10 : decode cX1_keep 10 = .ok (.dup, 1) := by decide +kernel
theorem dX1_keep_11 : decode cX1_keep 11 = .ok (.getfield 18, 3) := by decide +kernel
theorem dX1_keep_14 : decode cX1_keep 14 = .ok (.iconst 1, 1) := by decide +kernel
theorem dX1_keep_15 : decode cX1_keep 15 = .ok (.iadd, 1) := by decide +kernel
theorem dX1_keep_16 : decode cX1_keep 16 = .ok (.putfield 18, 3) := by decide +kernel
theorem dX1_keep_19 : decode cX1_keep 19 = .ok (.goto 16, 3) := by decide +kernel
theorem dX1_keep_22 : decode cX1_keep 22 = .ok (.aload_n 0, 1) := by decide +kernel
theorem dX1_keep_23 : decode cX1_keep 23 = .ok (.aload_n 0, 1) := by decide +kernel
theorem dX1_keep_24 : decode cX1_keep 24 = .ok (.getfield 36, 3) := by decide +kernel
theorem dX1_keep_27 : decode cX1_keep 27 = .ok (.iconst 1, 1) := by decide +kernel
theorem dX1_keep_28 : decode cX1_keep 28 = .ok (.iadd, 1) := by decide +kernel
theorem dX1_keep_29 : decode cX1_keep 29 = .ok (.bipush 7, 2) := by decide +kernel
theorem dX1_keep_31 : decode cX1_keep 31 = .ok (.irem, 1) := by decide +kernel
theorem dX1_keep_32 : decode cX1_keep 32 = .ok (.putfield 36, 3) := by decide +kernel
theorem dX1_keep_35 : decode cX1_keep 35 = .ok (.return_, 1) := by decide +kernel
theorem dX1_giveBack_0 : decode cX1_giveBack 0 = .ok (.aload_n 1, 1) := by decide +kernel
theorem dX1_giveBack_1 : decode cX1_giveBack 1 = .ok (.aload_n 0, 1) := by decide +kernel
theorem dX1_giveBack_2 : decode cX1_giveBack 2 = .ok (.getfield 13, 3) := by decide +kernel
theorem dX1_giveBack_5 : decode cX1_giveBack 5 = .ok (.aload_n 0, 1) := by decide +kernel
theorem dX1_giveBack_6 : decode cX1_giveBack 6 = .ok (.invokevirtual 29, 3) := by decide +kernel
theorem dX1_giveBack_9 : decode cX1_giveBack 9 = .ok (.aaload, 1) := by decide +kernel
theorem dX1_giveBack_10 : decode cX1_giveBack 10 = .ok (.invokevirtual 33, 3) := by decide +kernel
theorem dX1_giveBack_13 : decode cX1_giveBack 13 = .ok (.return_, 1) := by decide +kernel
theorem dX1_takeBackLatest_0 : decode cX1_takeBackLatest 0 = .ok (.aload_n 0, 1) := by decide +kernel
theorem dX1_takeBackLatest_1 : decode cX1_takeBackLatest 1 = .ok (.getfield 18, 3) := by decide +kernel
theorem dX1_takeBackLatest_4 : decode cX1_takeBackLatest 4 = .ok (.ifCond .le 18, 3) := by decide +kernel
theorem dX1_takeBackLatest_7 : decode cX1_takeBackLatest 7 = .ok (.aload_n 0, 1) := by decide +kernel
theorem dX1_takeBackLatest_8 : decode cX1_takeBackLatest 8 = .ok (.dup, 1) := by decide +kernel
theorem dX1_takeBackLatest_9 : decode cX1_takeBackLatest 9 = .ok (.getfield 18, 3) := by decide +kernel
theorem dX1_takeBackLatest_12 : decode cX1_takeBackLatest 12 = .ok (.iconst 1, 1) := by decide +kernel
theorem dX1_takeBackLatest_13 : decode cX1_takeBackLatest 13 = .ok (.isub, 1) := by decide +kernel
theorem dX1_takeBackLatest_14 : decode cX1_takeBackLatest 14 = .ok (.putfield 18, 3) := by decide +kernel
theorem dX1_takeBackLatest_17 : decode cX1_takeBackLatest 17 = .ok (.aload_n 0, 1) := by decide +kernel
theorem dX1_takeBackLatest_18 : decode cX1_takeBackLatest 18 = .ok (.aload_n 1, 1) := by decide +kernel
theorem dX1_takeBackLatest_19 : decode cX1_takeBackLatest 19 = .ok (.invokevirtual 39, 3) := by decide +kernel
theorem dX1_takeBackLatest_22 : decode cX1_takeBackLatest 22 = .ok (.return_, 1) := by decide +kernel
theorem dX1_indexBehind_0 : decode cX1_indexBehind 0 = .ok (.aload_n 0, 1) := by decide +kernel
theorem dX1_indexBehind_1 : decode cX1_indexBehind 1 = .ok (.getfield 36, 3) := by decide +kernel
theorem dX1_indexBehind_4 : decode cX1_indexBehind 4 = .ok (.aload_n 0, 1) := by decide +kernel
theorem dX1_indexBehind_5 : decode cX1_indexBehind 5 = .ok (.getfield 18, 3) := by decide +kernel
theorem dX1_indexBehind_8 : decode cX1_indexBehind 8 = .ok (.iadd, 1) := by decide +kernel
theorem dX1_indexBehind_9 : decode cX1_indexBehind 9 = .ok (.bipush 7, 2) := by decide +kernel
theorem dX1_indexBehind_11 : decode cX1_indexBehind 11 = .ok (.irem, 1) := by decide +kernel
theorem dX1_indexBehind_12 : decode cX1_indexBehind 12 = .ok (.ireturn, 1) := by decide +kernel
theorem dX2_init_0 : decode cX2_init 0 = .ok (.aload_n 0, 1) := by decide +kernel
theorem dX2_init_1 : decode cX2_init 1 = .ok (.invokespecial 3, 3) := by decide +kernel
theorem dX2_init_4 : decode cX2_init 4 = .ok (.aload_n 0, 1) := by decide +kernel
theorem dX2_init_5 : decode cX2_init 5 = .ok (.bipush 60, 2) := by decide +kernel
theorem dX2_init_7 : decode cX2_init 7 = .ok (.newarray .char, 2) := by decide +kernel
theorem dX2_init_9 : decode cX2_init 9 = .ok (.putfield 9, 3) := by decide +kernel
theorem dX2_init_12 : decode cX2_init 12 = .ok (.aload_n 0, 1) := by decide +kernel
theorem dX2_init_13 : decode cX2_init 13 = .ok (.bipush 100, 2) := by decide +kernel
theorem dX2_init_15 : decode cX2_init 15 = .ok (.newarray .int, 2) := by decide +kernel
theorem dX2_init_17 : decode cX2_init 17 = .ok (.putfield 15, 3) := by decide +kernel
theorem dX2_init_20 : decode cX2_init 20 = .ok (.aload_n 0, 1) := by decide +kernel
theorem dX2_init_21 : decode cX2_init 21 = .ok (.ldc 19, 2) := by decide +kernel
theorem dX2_init_23 : decode cX2_init 23 = .ok (.putfield 21, 3) := by decide +kernel
theorem dX2_init_26 : decode cX2_init 26 = .ok (.return_, 1) := by decide +kernel
theorem dX2_take_0 : decode cX2_take 0 = .ok (.aload_n 0, 1) := by decide +kernel
theorem dX2_take_1 : decode cX2_take 1 = .ok (.getfield 25, 3) := by decide +kernel
theorem dX2_take_4 : decode cX2_take 4 = .ok (.aload_n 0, 1) := by decide +kernel
theorem dX2_take_5 : decode cX2_take 5 = .ok (.getfield 9, 3) := by decide +kernel
theorem dX2_take_8 : decode cX2_take 8 = .ok (.arraylength, 1) := by decide +kernel
theorem dX2_take_9 : decode cX2_take 9 = .ok (.if_icmp .lt 5, 3) := by decide +kernel
theorem dX2_take_12 : decode cX2_take 12 = .ok (.iconst 0, 1) := by decide +kernel
theorem dX2_take_13 : decode cX2_take 13 = .ok (.ireturn, 1) := by decide +kernel
theorem dX2_take_14 : decode cX2_take 14 = .ok (.aload_n 0, 1) := by decide +kernel
theorem dX2_take_15 : decode cX2_take 15 = .ok (.getfield 9, 3) := by decide +kernel
theorem dX2_take_18 : decode cX2_take 18 = .ok (.aload_n 0, 1) := by decide +kernel
theorem dX2_take_19 : decode cX2_take 19 = .ok (.getfield 25, 3) := by decide +kernel
theorem dX2_take_22 : decode cX2_take 22 = .ok (.iload_n 1, 1) := by decide +kernel
theorem dX2_take_23 : decode cX2_take 23 = .ok (.castore, 1) := by decide +kernel
theorem dX2_take_24 : decode cX2_take 24 = .ok (.aload_n 0, 1) := by decide +kernel
theorem dX2_take_25 : decode cX2_take 25 = .ok (.dup, 1) := by decide +kernel
theorem dX2_take_26 : decode cX2_take 26 = .ok (.getfield 25, 3) := by decide +kernel
theorem dX2_take_29 : decode cX2_take 29 = .ok (.iconst 1, 1) := by decide +kernel
theorem dX2_take_30 : decode cX2_take 30 = .ok (.iadd, 1) := by decide +kernel
theorem dX2_take_31 : decode cX2_take 31 = .ok (.putfield 25, 3) := by decide +kernel
theorem dX2_take_34 : decode cX2_take 34 = .ok (.iconst 1, 1) := by decide +kernel
theorem dX2_take_35 : decode cX2_take 35 = .ok (.ireturn, 1) := by decide +kernel
theorem dX2_readOut_0 : decode cX2_readOut 0 = .ok (.aload_n 0, 1) := by decide +kernel
theorem dX2_readOut_1 : decode cX2_readOut 1 = .ok (.getfield 25, 3) := by decide +kernel
theorem dX2_readOut_4 : decode cX2_readOut 4 = .ok (.istore_n 1, 1) := by decide +kernel
theorem dX2_readOut_5 : decode cX2_readOut 5 = .ok (.aload_n 0, 1) := by decide +kernel
theorem dX2_readOut_6 : decode cX2_readOut 6 = .ok (.iconst 0, 1) := by decide +kernel
theorem dX2_readOut_7 : decode cX2_readOut 7 = .ok (.putfield 25, 3) := by decide +kernel
theorem dX2_readOut_10 : decode cX2_readOut 10 = .ok (.aload_n 0, 1) := by decide +kernel
theorem dX2_readOut_11 : decode cX2_readOut 11 = .ok (.iconst 0, 1) := by decide +kernel
theorem dX2_readOut_12 : decode cX2_readOut 12 = .ok (.putfield 29, 3) := by decide +kernel
theorem dX2_readOut_15 : decode cX2_readOut 15 = .ok (.aload_n 0, 1) := by decide +kernel
theorem dX2_readOut_16 : decode cX2_readOut 16 = .ok (.ldc 19, 2) := by decide +kernel
theorem dX2_readOut_18 : decode cX2_readOut 18 = .ok (.putfield 21, 3) := by decide +kernel
theorem dX2_readOut_21 : decode cX2_readOut 21 = .ok (.iconst 0, 1) := by decide +kernel
theorem dX2_readOut_22 : decode cX2_readOut 22 = .ok (.istore_n 2, 1) := by decide +kernel
theorem dX2_readOut_23 : decode cX2_readOut 23 = .ok (.iload_n 2, 1) := by decide +kernel
theorem dX2_readOut_24 : decode cX2_readOut 24 = .ok (.iload_n 1, 1) := by decide +kernel
theorem dX2_readOut_25 : decode cX2_readOut 25 = .ok (.if_icmp .ge 24, 3) := by decide +kernel
theorem dX2_readOut_28 : decode cX2_readOut 28 = .ok (.aload_n 0, 1) := by decide +kernel
theorem dX2_readOut_29 : decode cX2_readOut 29 = .ok (.aload_n 0, 1) := by decide +kernel
theorem dX2_readOut_30 : decode cX2_readOut 30 = .ok (.getfield 9, 3) := by decide +kernel
theorem dX2_readOut_33 : decode cX2_readOut 33 = .ok (.iload_n 2, 1) := by decide +kernel
theorem dX2_readOut_34 : decode cX2_readOut 34 = .ok (.caload, 1) := by decide +kernel
theorem dX2_readOut_35 : decode cX2_readOut 35 = .ok (.invokevirtual 32, 3) := by decide +kernel
theorem dX2_readOut_38 : decode cX2_readOut 38 = .ok (.ifCond .ne 5, 3) := by decide +kernel
theorem dX2_readOut_41 : decode cX2_readOut 41 = .ok (.iload_n 2, 1) := by decide +kernel
theorem dX2_readOut_42 : decode cX2_readOut 42 = .ok (.ireturn, 1) := by decide +kernel
theorem dX2_readOut_43 : decode cX2_readOut 43 = .ok (.iinc 2 1, 3) := by decide +kernel
theorem dX2_readOut_46 : decode cX2_readOut 46 = .ok (.goto (-23), 3) := by decide +kernel
theorem dX2_readOut_49 : decode cX2_readOut 49 = .ok (.aload_n 0, 1) := by decide +kernel
theorem dX2_readOut_50 : decode cX2_readOut 50 = .ok (.getfield 21, 3) := by decide +kernel
theorem dX2_readOut_53 : decode cX2_readOut 53 = .ok (.invokevirtual 36, 3) := by decide +kernel
theorem dX2_readOut_56 : decode cX2_readOut 56 = .ok (.ifCond .eq 14, 3) := by decide +kernel
theorem dX2_readOut_59 : decode cX2_readOut 59 = .ok (.aload_n 0, 1) := by decide +kernel
theorem dX2_readOut_60 : decode cX2_readOut 60 = .ok (.getfield 29, 3) := by decide +kernel
theorem dX2_readOut_63 : decode cX2_readOut 63 = .ok (.ifCond .le 7, 3) := by decide +kernel
theorem dX2_readOut_66 : decode cX2_readOut 66 = .ok (.iconst (-1), 1) := by decide +kernel
theorem dX2_readOut_67 : decode cX2_readOut 67 = .ok (.goto 4, 3) := by decide +kernel
theorem dX2_readOut_70 : decode cX2_readOut 70 = .ok (.iload_n 1, 1) := by decide +kernel
theorem dX2_readOut_71 : decode cX2_readOut 71 = .ok (.ireturn, 1) := by decide +kernel
theorem dX2_cell_0 : decode cX2_cell 0 = .ok (.iload_n 1, 1) := by decide +kernel
theorem dX2_cell_1 : decode cX2_cell 1 = .ok (.iconst 5, 1) := by decide +kernel
theorem dX2_cell_2 : decode cX2_cell 2 = .ok (.imul, 1) := by decide +kernel
theorem dX2_cell_3 : decode cX2_cell 3 = .ok (.iload_n 2, 1) := by decide +kernel
theorem dX2_cell_4 : decode cX2_cell 4 = .ok (.iadd, 1) := by decide +kernel
theorem dX2_cell_5 : decode cX2_cell 5 = .ok (.istore_n 3, 1) := by decide +kernel
theorem dX2_cell_6 : decode cX2_cell 6 = .ok (.iload_n 3, 1) := by decide +kernel
theorem dX2_cell_7 : decode cX2_cell 7 = .ok (.ifCond .lt 21, 3) := by decide +kernel
theorem dX2_cell_10 : decode cX2_cell 10 = .ok (.iload_n 3, 1) := by decide +kernel
theorem dX2_cell_11 : decode cX2_cell 11 = .ok (.aload_n 0, 1) := by decide +kernel
theorem dX2_cell_12 : decode cX2_cell 12 = .ok (.getfield 15, 3) := by decide +kernel
theorem dX2_cell_15 : decode cX2_cell 15 = .ok (.arraylength, 1) := by decide +kernel
theorem dX2_cell_16 : decode cX2_cell 16 = .ok (.if_icmp .ge 12, 3) := by decide +kernel
theorem dX2_cell_19 : decode cX2_cell 19 = .ok (.aload_n 0, 1) := by decide +kernel
theorem dX2_cell_20 : decode cX2_cell 20 = .ok (.getfield 15, 3) := by decide +kernel
theorem dX2_cell_23 : decode cX2_cell 23 = .ok (.iload_n 3, 1) := by decide +kernel
theorem dX2_cell_24 : decode cX2_cell 24 = .ok (.iaload, 1) := by decide +kernel
theorem dX2_cell_25 : decode cX2_cell 25 = .ok (.goto 4, 3) := by decide +kernel
theorem dX2_cell_28 : decode cX2_cell 28 = .ok (.iconst 0, 1) := by decide +kernel
theorem dX2_cell_29 : decode cX2_cell 29 = .ok (.ireturn, 1) := by decide +kernel
theorem dX2_accept_0 : decode cX2_accept 0 = .ok (.aload_n 0, 1) := by decide +kernel
theorem dX2_accept_1 : decode cX2_accept 1 = .ok (.getfield 21, 3) := by decide +kernel
theorem dX2_accept_4 : decode cX2_accept 4 = .ok (.invokevirtual 36, 3) := by decide +kernel
theorem dX2_accept_7 : decode cX2_accept 7 = .ok (.ifCond .eq 9, 3) := by decide +kernel
theorem dX2_accept_10 : decode cX2_accept 10 = .ok (.aload_n 0, 1) := by decide +kernel
theorem dX2_accept_11 : decode cX2_accept 11 = .ok (.iload_n 1, 1) := by decide +kernel
theorem dX2_accept_12 : decode cX2_accept 12 = .ok (.invokevirtual 42, 3) := by decide +kernel
theorem dX2_accept_15 : decode cX2_accept 15 = .ok (.ireturn, 1) := by decide +kernel
theorem dX2_accept_16 : decode cX2_accept 16 = .ok (.iload_n 1, 1) := by decide +kernel
theorem dX2_accept_17 : decode cX2_accept 17 = .ok (.bipush 48, 2) := by decide +kernel
theorem dX2_accept_19 : decode cX2_accept 19 = .ok (.if_icmp .lt 18, 3) := by decide +kernel
theorem dX2_accept_22 : decode cX2_accept 22 = .ok (.iload_n 1, 1) := by decide +kernel
theorem dX2_accept_23 : decode cX2_accept 23 = .ok (.bipush 57, 2) := by decide +kernel
theorem dX2_accept_25 : decode cX2_accept 25 = .ok (.if_icmp .gt 12, 3) := by decide +kernel
theorem dX2_accept_28 : decode cX2_accept 28 = .ok (.aload_n 0, 1) := by decide +kernel
theorem dX2_accept_29 : decode cX2_accept 29 = .ok (.iload_n 1, 1) := by decide +kernel
theorem dX2_accept_30 : decode cX2_accept 30 = .ok (.bipush 48, 2) := by decide +kernel
theorem dX2_accept_32 : decode cX2_accept 32 = .ok (.isub, 1) := by decide +kernel
theorem dX2_accept_33 : decode cX2_accept 33 = .ok (.invokevirtual 45, 3) := by decide +kernel
theorem dX2_accept_36 : decode cX2_accept 36 = .ok (.ireturn, 1) := by decide +kernel
theorem dX2_accept_37 : decode cX2_accept 37 = .ok (.aload_n 0, 1) := by decide +kernel
theorem dX2_accept_38 : decode cX2_accept 38 = .ok (.getfield 49, 3) := by decide +kernel
theorem dX2_accept_41 : decode cX2_accept 41 = .ok (.aload_n 0, 1) := by decide +kernel
theorem dX2_accept_42 : decode cX2_accept 42 = .ok (.getfield 21, 3) := by decide +kernel
theorem dX2_accept_45 : decode cX2_accept 45 = .ok (.invokevirtual 52, 3) := by decide +kernel
theorem dX2_accept_48 : decode cX2_accept 48 = .ok (.if_icmp .ge 32, 3) := by decide +kernel
theorem dX2_accept_51 : decode cX2_accept 51 = .ok (.aload_n 0, 1) := by decide +kernel
theorem dX2_accept_52 : decode cX2_accept 52 = .ok (.getfield 21, 3) := by decide +kernel
theorem dX2_accept_55 : decode cX2_accept 55 = .ok (.aload_n 0, 1) := by decide +kernel
theorem dX2_accept_56 : decode cX2_accept 56 = .ok (.getfield 49, 3) := by decide +kernel
theorem dX2_accept_59 : decode cX2_accept 59 = .ok (.invokevirtual 55, 3) := by decide +kernel
theorem dX2_accept_62 : decode cX2_accept 62 = .ok (.bipush 57, 2) := by decide +kernel
theorem dX2_accept_64 : decode cX2_accept 64 = .ok (.if_icmp .ne 16, 3) := by decide +kernel
theorem dX2_accept_67 : decode cX2_accept 67 = .ok (.aload_n 0, 1) := by decide +kernel
theorem dX2_accept_68 : decode cX2_accept 68 = .ok (.dup, 1) := by decide +kernel
theorem dX2_accept_69 : decode cX2_accept 69 = .ok (.getfield 49, 3) := by decide +kernel
theorem dX2_accept_72 : decode cX2_accept 72 = .ok (.iconst 1, 1) := by decide +kernel
theorem dX2_accept_73 : decode cX2_accept 73 = .ok (.iadd, 1) := by decide +kernel
theorem dX2_accept_74 : decode cX2_accept 74 = .ok (.putfield 49, 3) := by decide +kernel
theorem dX2_accept_77 : decode cX2_accept 77 = .ok (.goto (-40), 3) := by decide +kernel
theorem dX2_accept_80 : decode cX2_accept 80 = .ok (.aload_n 0, 1) := by decide +kernel
theorem dX2_accept_81 : decode cX2_accept 81 = .ok (.getfield 49, 3) := by decide +kernel
theorem dX2_accept_84 : decode cX2_accept 84 = .ok (.aload_n 0, 1) := by decide +kernel
theorem dX2_accept_85 : decode cX2_accept 85 = .ok (.getfield 21, 3) := by decide +kernel
theorem dX2_accept_88 : decode cX2_accept 88 = .ok (.invokevirtual 52, 3) := by decide +kernel
theorem dX2_accept_91 : decode cX2_accept 91 = .ok (.if_icmp .ge 18, 3) := by decide +kernel
theorem dX2_accept_94 : decode cX2_accept 94 = .ok (.aload_n 0, 1) := by decide +kernel
theorem dX2_accept_95 : decode cX2_accept 95 = .ok (.getfield 21, 3) := by decide +kernel
theorem dX2_accept_98 : decode cX2_accept 98 = .ok (.aload_n 0, 1) := by decide +kernel
theorem dX2_accept_99 : decode cX2_accept 99 = .ok (.getfield 49, 3) := by decide +kernel
theorem dX2_accept_102 : decode cX2_accept 102 = .ok (.invokevirtual 55, 3) := by decide +kernel
theorem dX2_accept_105 : decode cX2_accept 105 = .ok (.iload_n 1, 1) := by decide +kernel
theorem dX2_accept_106 : decode cX2_accept 106 = .ok (.if_icmp .eq 5, 3) := by decide +kernel
theorem dX2_accept_109 : decode cX2_accept 109 = .ok (.iconst 0, 1) := by decide +kernel
theorem dX2_accept_110 : decode cX2_accept 110 = .ok (.ireturn, 1) := by decide +kernel
theorem dX2_accept_111 : decode cX2_accept 111 = .ok (.aload_n 0, 1) := by decide +kernel
theorem dX2_accept_112 : decode cX2_accept 112 = .ok (.dup, 1) := by decide +kernel
theorem dX2_accept_113 : decode cX2_accept 113 = .ok (.getfield 49, 3) := by decide +kernel
theorem dX2_accept_116 : decode cX2_accept 116 = .ok (.iconst 1, 1) := by decide +kernel
theorem dX2_accept_117 : decode cX2_accept 117 = .ok (.iadd, 1) := by decide +kernel
theorem dX2_accept_118 : decode cX2_accept 118 = .ok (.putfield 49, 3) := by decide +kernel
theorem dX2_accept_121 : decode cX2_accept 121 = .ok (.aload_n 0, 1) := by decide +kernel
theorem dX2_accept_122 : decode cX2_accept 122 = .ok (.dup, 1) := by decide +kernel
theorem dX2_accept_123 : decode cX2_accept 123 = .ok (.getfield 59, 3) := by decide +kernel
theorem dX2_accept_126 : decode cX2_accept 126 = .ok (.iconst 1, 1) := by decide +kernel
theorem dX2_accept_127 : decode cX2_accept 127 = .ok (.iadd, 1) := by decide +kernel
theorem dX2_accept_128 : decode cX2_accept 128 = .ok (.putfield 59, 3) := by decide +kernel
theorem dX2_accept_131 : decode cX2_accept 131 = .ok (.aload_n 0, 1) := by decide +kernel
theorem dX2_accept_132 : decode cX2_accept 132 = .ok (.getfield 49, 3) := by decide +kernel
theorem dX2_accept_135 : decode cX2_accept 135 = .ok (.aload_n 0, 1) := by decide +kernel
theorem dX2_accept_136 : decode cX2_accept 136 = .ok (.getfield 21, 3) := by decide +kernel
theorem dX2_accept_139 : decode cX2_accept 139 = .ok (.invokevirtual 52, 3) := by decide +kernel
theorem dX2_accept_142 : decode cX2_accept 142 = .ok (.if_icmp .ne 19, 3) := by decide +kernel
theorem dX2_accept_145 : decode cX2_accept 145 = .ok (.aload_n 0, 1) := by decide +kernel
theorem dX2_accept_146 : decode cX2_accept 146 = .ok (.ldc 19, 2) := by decide +kernel
theorem dX2_accept_148 : decode cX2_accept 148 = .ok (.putfield 21, 3) := by decide +kernel
theorem dX2_accept_151 : decode cX2_accept 151 = .ok (.aload_n 0, 1) := by decide +kernel
theorem dX2_accept_152 : decode cX2_accept 152 = .ok (.dup, 1) := by decide +kernel
theorem dX2_accept_153 : decode cX2_accept 153 = .ok (.getfield 29, 3) := by decide +kernel
theorem dX2_accept_156 : decode cX2_accept 156 = .ok (.iconst 1, 1) := by decide +kernel
theorem dX2_accept_157 : decode cX2_accept 157 = .ok (.iadd, 1) := by decide +kernel
theorem dX2_accept_158 : decode cX2_accept 158 = .ok (.putfield 29, 3) := by decide +kernel
theorem dX2_accept_161 : decode cX2_accept 161 = .ok (.iconst 1, 1) := by decide +kernel
theorem dX2_accept_162 : decode cX2_accept 162 = .ok (.ireturn, 1) := by decide +kernel
theorem dX2_open_0 : decode cX2_open 0 = .ok (.aload_n 0, 1) := by decide +kernel
theorem dX2_open_1 : decode cX2_open 1 = .ok (.iload_n 1, 1) := by decide +kernel
theorem dX2_open_2 : decode cX2_open 2 = .ok (.invokestatic 62, 3) := by decide +kernel
theorem dX2_open_5 : decode cX2_open 5 = .ok (.putfield 21, 3) := by decide +kernel
theorem dX2_open_8 : decode cX2_open 8 = .ok (.aload_n 0, 1) := by decide +kernel
theorem dX2_open_9 : decode cX2_open 9 = .ok (.getfield 21, 3) := by decide +kernel
theorem dX2_open_12 : decode cX2_open 12 = .ok (.invokevirtual 36, 3) := by decide +kernel
theorem dX2_open_15 : decode cX2_open 15 = .ok (.ifCond .ne 12, 3) := by decide +kernel
theorem dX2_open_18 : decode cX2_open 18 = .ok (.aload_n 0, 1) := by decide +kernel
theorem dX2_open_19 : decode cX2_open 19 = .ok (.getfield 29, 3) := by decide +kernel
theorem dX2_open_22 : decode cX2_open 22 = .ok (.bipush 20, 2) := by decide +kernel
theorem dX2_open_24 : decode cX2_open 24 = .ok (.if_icmp .lt 5, 3) := by decide +kernel
theorem dX2_open_27 : decode cX2_open 27 = .ok (.iconst 0, 1) := by decide +kernel
theorem dX2_open_28 : decode cX2_open 28 = .ok (.ireturn, 1) := by decide +kernel
theorem dX2_open_29 : decode cX2_open 29 = .ok (.iconst 1, 1) := by decide +kernel
theorem dX2_open_30 : decode cX2_open 30 = .ok (.istore_n 2, 1) := by decide +kernel
theorem dX2_open_31 : decode cX2_open 31 = .ok (.iload_n 2, 1) := by decide +kernel
theorem dX2_open_32 : decode cX2_open 32 = .ok (.iconst 5, 1) := by decide +kernel
theorem dX2_open_33 : decode cX2_open 33 = .ok (.if_icmp .ge 23, 3) := by decide +kernel
theorem dX2_open_36 : decode cX2_open 36 = .ok (.aload_n 0, 1) := by decide +kernel
theorem dX2_open_37 : decode cX2_open 37 = .ok (.getfield 15, 3) := by decide +kernel
theorem dX2_open_40 : decode cX2_open 40 = .ok (.aload_n 0, 1) := by decide +kernel
theorem dX2_open_41 : decode cX2_open 41 = .ok (.getfield 29, 3) := by decide +kernel
theorem dX2_open_44 : decode cX2_open 44 = .ok (.iconst 5, 1) := by decide +kernel
theorem dX2_open_45 : decode cX2_open 45 = .ok (.imul, 1) := by decide +kernel
theorem dX2_open_46 : decode cX2_open 46 = .ok (.iload_n 2, 1) := by decide +kernel
theorem dX2_open_47 : decode cX2_open 47 = .ok (.iadd, 1) := by decide +kernel
theorem dX2_open_48 : decode cX2_open 48 = .ok (.iconst 0, 1) := by decide +kernel
theorem dX2_open_49 : decode cX2_open 49 = .ok (.iastore, 1) := by decide +kernel
theorem dX2_open_50 : decode cX2_open 50 = .ok (.iinc 2 1, 3) := by decide +kernel
theorem dX2_open_53 : decode cX2_open 53 = .ok (.goto (-22), 3) := by decide +kernel
theorem dX2_open_56 : decode cX2_open 56 = .ok (.aload_n 0, 1) := by decide +kernel
theorem dX2_open_57 : decode cX2_open 57 = .ok (.getfield 15, 3) := by decide +kernel
theorem dX2_open_60 : decode cX2_open 60 = .ok (.aload_n 0, 1) := by decide +kernel
theorem dX2_open_61 : decode cX2_open 61 = .ok (.getfield 29, 3) := by decide +kernel
theorem dX2_open_64 : decode cX2_open 64 = .ok (.iconst 5, 1) := by decide +kernel
theorem dX2_open_65 : decode cX2_open 65 = .ok (.imul, 1) := by decide +kernel
theorem dX2_open_66 : decode cX2_open 66 = .ok (.iload_n 1, 1) := by decide +kernel
theorem dX2_open_67 : decode cX2_open 67 = .ok (.iastore, 1) := by decide +kernel
theorem dX2_open_68 : decode cX2_open 68 = .ok (.aload_n 0, 1) := by decide +kernel
theorem dX2_open_69 : decode cX2_open 69 = .ok (.iconst 0, 1) := by decide +kernel
theorem dX2_open_70 : decode cX2_open 70 = .ok (.putfield 49, 3) := by decide +kernel
theorem dX2_open_73 : decode cX2_open 73 = .ok (.aload_n 0, 1) := by decide +kernel
theorem dX2_open_74 : decode cX2_open 74 = .ok (.iconst 1, 1) := by decide +kernel
theorem dX2_open_75 : decode cX2_open 75 = .ok (.putfield 59, 3) := by decide +kernel
theorem dX2_open_78 : decode cX2_open 78 = .ok (.iconst 1, 1) := by decide +kernel
theorem dX2_open_79 : decode cX2_open 79 = .ok (.ireturn, 1) := by decide +kernel
theorem dX2_formOf_0 : decode cX2_formOf 0 = .ok (.iload_n 0, 1) := by decide +kernel
theorem dX2_formOf_1 : decode cX2_formOf 1 = .ok (.tableswitch 82 100 112 #[79, 82, 82, 82, 82, 82, 67, 82, 70, 82, 76, 82, 73], 67) := by decide +kernel
theorem dX2_formOf_68 : decode cX2_formOf 68 = .ok (.ldc 66, 2) := by decide +kernel
theorem dX2_formOf_70 : decode cX2_formOf 70 = .ok (.areturn, 1) := by decide +kernel
theorem dX2_formOf_71 : decode cX2_formOf 71 = .ok (.ldc 66, 2) := by decide +kernel
theorem dX2_formOf_73 : decode cX2_formOf 73 = .ok (.areturn, 1) := by decide +kernel
theorem dX2_formOf_74 : decode cX2_formOf 74 = .ok (.ldc 68, 2) := by decide +kernel
theorem dX2_formOf_76 : decode cX2_formOf 76 = .ok (.areturn, 1) := by decide +kernel
theorem dX2_formOf_77 : decode cX2_formOf 77 = .ok (.ldc 70, 2) := by decide +kernel
theorem dX2_formOf_79 : decode cX2_formOf 79 = .ok (.areturn, 1) := by decide +kernel
theorem dX2_formOf_80 : decode cX2_formOf 80 = .ok (.ldc 72, 2) := by decide +kernel
theorem dX2_formOf_82 : decode cX2_formOf 82 = .ok (.areturn, 1) := by decide +kernel
theorem dX2_formOf_83 : decode cX2_formOf 83 = .ok (.ldc 19, 2) := by decide +kernel
theorem dX2_formOf_85 : decode cX2_formOf 85 = .ok (.areturn, 1) := by decide +kernel
theorem dX2_acceptDigit_0 : decode cX2_acceptDigit 0 = .ok (.aload_n 0, 1) := by decide +kernel
theorem dX2_acceptDigit_1 : decode cX2_acceptDigit 1 = .ok (.getfield 49, 3) := by decide +kernel
theorem dX2_acceptDigit_4 : decode cX2_acceptDigit 4 = .ok (.aload_n 0, 1) := by decide +kernel
theorem dX2_acceptDigit_5 : decode cX2_acceptDigit 5 = .ok (.getfield 21, 3) := by decide +kernel
theorem dX2_acceptDigit_8 : decode cX2_acceptDigit 8 = .ok (.invokevirtual 52, 3) := by decide +kernel
theorem dX2_acceptDigit_11 : decode cX2_acceptDigit 11 = .ok (.if_icmp .ge 35, 3) := by decide +kernel
theorem dX2_acceptDigit_14 : decode cX2_acceptDigit 14 = .ok (.aload_n 0, 1) := by decide +kernel
theorem dX2_acceptDigit_15 : decode cX2_acceptDigit 15 = .ok (.getfield 21, 3) := by decide +kernel
theorem dX2_acceptDigit_18 : decode cX2_acceptDigit 18 = .ok (.aload_n 0, 1) := by decide +kernel
theorem dX2_acceptDigit_19 : decode cX2_acceptDigit 19 = .ok (.getfield 49, 3) := by decide +kernel
theorem dX2_acceptDigit_22 : decode cX2_acceptDigit 22 = .ok (.invokevirtual 55, 3) := by decide +kernel
theorem dX2_acceptDigit_25 : decode cX2_acceptDigit 25 = .ok (.bipush 48, 2) := by decide +kernel
theorem dX2_acceptDigit_27 : decode cX2_acceptDigit 27 = .ok (.if_icmp .eq 21, 3) := by decide +kernel
theorem dX2_acceptDigit_30 : decode cX2_acceptDigit 30 = .ok (.aload_n 0, 1) := by decide +kernel
theorem dX2_acceptDigit_31 : decode cX2_acceptDigit 31 = .ok (.getfield 21, 3) := by decide +kernel
theorem dX2_acceptDigit_34 : decode cX2_acceptDigit 34 = .ok (.aload_n 0, 1) := by decide +kernel
theorem dX2_acceptDigit_35 : decode cX2_acceptDigit 35 = .ok (.getfield 49, 3) := by decide +kernel
theorem dX2_acceptDigit_38 : decode cX2_acceptDigit 38 = .ok (.invokevirtual 55, 3) := by decide +kernel
theorem dX2_acceptDigit_41 : decode cX2_acceptDigit 41 = .ok (.bipush 57, 2) := by decide +kernel
theorem dX2_acceptDigit_43 : decode cX2_acceptDigit 43 = .ok (.if_icmp .eq 5, 3) := by decide +kernel
theorem dX2_acceptDigit_46 : decode cX2_acceptDigit 46 = .ok (.iconst 0, 1) := by decide +kernel
theorem dX2_acceptDigit_47 : decode cX2_acceptDigit 47 = .ok (.ireturn, 1) := by decide +kernel
theorem dX2_acceptDigit_48 : decode cX2_acceptDigit 48 = .ok (.aload_n 0, 1) := by decide +kernel
theorem dX2_acceptDigit_49 : decode cX2_acceptDigit 49 = .ok (.getfield 29, 3) := by decide +kernel
theorem dX2_acceptDigit_52 : decode cX2_acceptDigit 52 = .ok (.iconst 5, 1) := by decide +kernel
theorem dX2_acceptDigit_53 : decode cX2_acceptDigit 53 = .ok (.imul, 1) := by decide +kernel
theorem dX2_acceptDigit_54 : decode cX2_acceptDigit 54 = .ok (.aload_n 0, 1) := by decide +kernel
theorem dX2_acceptDigit_55 : decode cX2_acceptDigit 55 = .ok (.getfield 59, 3) := by decide +kernel
theorem dX2_acceptDigit_58 : decode cX2_acceptDigit 58 = .ok (.iadd, 1) := by decide +kernel
theorem dX2_acceptDigit_59 : decode cX2_acceptDigit 59 = .ok (.istore_n 2, 1) := by decide +kernel
theorem dX2_acceptDigit_60 : decode cX2_acceptDigit 60 = .ok (.iload_n 2, 1) := by decide +kernel
theorem dX2_acceptDigit_61 : decode cX2_acceptDigit 61 = .ok (.ifCond .lt 12, 3) := by decide +kernel
theorem dX2_acceptDigit_64 : decode cX2_acceptDigit 64 = .ok (.iload_n 2, 1) := by decide +kernel
theorem dX2_acceptDigit_65 : decode cX2_acceptDigit 65 = .ok (.aload_n 0, 1) := by decide +kernel
theorem dX2_acceptDigit_66 : decode cX2_acceptDigit 66 = .ok (.getfield 15, 3) := by decide +kernel
theorem dX2_acceptDigit_69 : decode cX2_acceptDigit 69 = .ok (.arraylength, 1) := by decide +kernel
theorem dX2_acceptDigit_70 : decode cX2_acceptDigit 70 = .ok (.if_icmp .lt 5, 3) := by decide +kernel
theorem dX2_acceptDigit_73 : decode cX2_acceptDigit 73 = .ok (.iconst 0, 1) := by decide +kernel
theorem dX2_acceptDigit_74 : decode cX2_acceptDigit 74 = .ok (.ireturn, 1) := by decide +kernel
theorem dX2_acceptDigit_75 : decode cX2_acceptDigit 75 = .ok (.aload_n 0, 1) := by decide +kernel
theorem dX2_acceptDigit_76 : decode cX2_acceptDigit 76 = .ok (.getfield 15, 3) := by decide +kernel
theorem dX2_acceptDigit_79 : decode cX2_acceptDigit 79 = .ok (.iload_n 2, 1) := by decide +kernel
theorem dX2_acceptDigit_80 : decode cX2_acceptDigit 80 = .ok (.aload_n 0, 1) := by decide +kernel
theorem dX2_acceptDigit_81 : decode cX2_acceptDigit 81 = .ok (.getfield 15, 3) := by decide +kernel
theorem dX2_acceptDigit_84 : decode cX2_acceptDigit 84 = .ok (.iload_n 2, 1) := by decide +kernel
theorem dX2_acceptDigit_85 : decode cX2_acceptDigit 85 = .ok (.iaload, 1) := by decide +kernel
theorem dX2_acceptDigit_86 : decode cX2_acceptDigit 86 = .ok (.bipush 10, 2) := by decide +kernel
theorem dX2_acceptDigit_88 : decode cX2_acceptDigit 88 = .ok (.imul, 1) := by decide +kernel
theorem dX2_acceptDigit_89 : decode cX2_acceptDigit 89 = .ok (.iload_n 1, 1) := by decide +kernel
theorem dX2_acceptDigit_90 : decode cX2_acceptDigit 90 = .ok (.iadd, 1) := by decide +kernel
theorem dX2_acceptDigit_91 : decode cX2_acceptDigit 91 = .ok (.iastore, 1) := by decide +kernel
theorem dX2_acceptDigit_92 : decode cX2_acceptDigit 92 = .ok (.aload_n 0, 1) := by decide +kernel
theorem dX2_acceptDigit_93 : decode cX2_acceptDigit 93 = .ok (.dup, 1) := by decide +kernel
theorem dX2_acceptDigit_94 : decode cX2_acceptDigit 94 = .ok (.getfield 49, 3) := by decide +kernel
theorem dX2_acceptDigit_97 : decode cX2_acceptDigit 97 = .ok (.iconst 1, 1) := by decide +kernel
theorem dX2_acceptDigit_98 : decode cX2_acceptDigit 98 = .ok (.iadd, 1) := by decide +kernel
theorem dX2_acceptDigit_99 : decode cX2_acceptDigit 99 = .ok (.putfield 49, 3) := by decide +kernel
theorem dX2_acceptDigit_102 : decode cX2_acceptDigit 102 = .ok (.iconst 1, 1) := by decide +kernel
theorem dX2_acceptDigit_103 : decode cX2_acceptDigit 103 = .ok (.ireturn, 1) := by decide +kernel
theorem dX3_init_0 : decode cX3_init 0 = .ok (.aload_n 0, 1) := by decide +kernel
theorem dX3_init_1 : decode cX3_init 1 = .ok (.invokespecial 3, 3) := by decide +kernel
theorem dX3_init_4 : decode cX3_init 4 = .ok (.aload_n 0, 1) := by decide +kernel
theorem dX3_init_5 : decode cX3_init 5 = .ok (.iload_n 1, 1) := by decide +kernel
theorem dX3_init_6 : decode cX3_init 6 = .ok (.putfield 9, 3) := by decide +kernel
theorem dX3_init_9 : decode cX3_init 9 = .ok (.aload_n 0, 1) := by decide +kernel
theorem dX3_init_10 : decode cX3_init 10 = .ok (.bipush 51, 2) := by decide +kernel
theorem dX3_init_12 : decode cX3_init 12 = .ok (.newarray .long, 2) := by decide +kernel
theorem dX3_init_14 : decode cX3_init 14 = .ok (.putfield 15, 3) := by decide +kernel
theorem dX3_init_17 : decode cX3_init 17 = .ok (.return_, 1) := by decide +kernel
theorem dX3_set_0 : decode cX3_set 0 = .ok (.aload_n 0, 1) := by decide +kernel
theorem dX3_set_1 : decode cX3_set 1 = .ok (.iload_n 1, 1) := by decide +kernel
theorem dX3_set_2 : decode cX3_set 2 = .ok (.putfield 19, 3) := by decide +kernel
theorem dX3_set_5 : decode cX3_set 5 = .ok (.aload_n 0, 1) := by decide +kernel
theorem dX3_set_6 : decode cX3_set 6 = .ok (.iload_n 2, 1) := by decide +kernel
theorem dX3_set_7 : decode cX3_set 7 = .ok (.putfield 22, 3) := by decide +kernel
theorem dX3_set_10 : decode cX3_set 10 = .ok (.aload_n 0, 1) := by decide +kernel
theorem dX3_set_11 : decode cX3_set 11 = .ok (.iload_n 3, 1) := by decide +kernel
theorem dX3_set_12 : decode cX3_set 12 = .ok (.putfield 25, 3) := by decide +kernel
theorem dX3_set_15 : decode cX3_set 15 = .ok (.aload_n 0, 1) := by decide +kernel
theorem dX3_set_16 : decode cX3_set 16 = .ok (.iload 4, 2) := by decide +kernel
theorem dX3_set_18 : decode cX3_set 18 = .ok (.putfield 28, 3) := by decide +kernel
theorem dX3_set_21 : decode cX3_set 21 = .ok (.return_, 1) := by decide +kernel
theorem dX3_makeNew_0 : decode cX3_makeNew 0 = .ok (.aload_n 0, 1) := by decide +kernel
theorem dX3_makeNew_1 : decode cX3_makeNew 1 = .ok (.iconst 0, 1) := by decide +kernel
theorem dX3_makeNew_2 : decode cX3_makeNew 2 = .ok (.iconst 0, 1) := by decide +kernel
theorem dX3_makeNew_3 : decode cX3_makeNew 3 = .ok (.iconst 0, 1) := by decide +kernel
theorem dX3_makeNew_4 : decode cX3_makeNew 4 = .ok (.iconst 0, 1) := by decide +kernel
theorem dX3_makeNew_5 : decode cX3_makeNew 5 = .ok (.invokevirtual 31, 3) := by decide +kernel
theorem dX3_makeNew_8 : decode cX3_makeNew 8 = .ok (.aload_n 0, 1) := by decide +kernel
theorem dX3_makeNew_9 : decode cX3_makeNew 9 = .ok (.iconst 0, 1) := by decide +kernel
theorem dX3_makeNew_10 : decode cX3_makeNew 10 = .ok (.putfield 35, 3) := by decide +kernel
theorem dX3_makeNew_13 : decode cX3_makeNew 13 = .ok (.aload_n 0, 1) := by decide +kernel
theorem dX3_makeNew_14 : decode cX3_makeNew 14 = .ok (.iconst 0, 1) := by decide +kernel
theorem dX3_makeNew_15 : decode cX3_makeNew 15 = .ok (.putfield 38, 3) := by decide +kernel
theorem dX3_makeNew_18 : decode cX3_makeNew 18 = .ok (.iconst 0, 1) := by decide +kernel
theorem dX3_makeNew_19 : decode cX3_makeNew 19 = .ok (.istore_n 1, 1) := by decide +kernel
theorem dX3_makeNew_20 : decode cX3_makeNew 20 = .ok (.iload_n 1, 1) := by decide +kernel
theorem dX3_makeNew_21 : decode cX3_makeNew 21 = .ok (.aload_n 0, 1) := by decide +kernel
theorem dX3_makeNew_22 : decode cX3_makeNew 22 = .ok (.getfield 15, 3) := by decide +kernel
theorem dX3_makeNew_25 : decode cX3_makeNew 25 = .ok (.arraylength, 1) := by decide +kernel
theorem dX3_makeNew_26 : decode cX3_makeNew 26 = .ok (.if_icmp .ge 16, 3) := by decide +kernel
theorem dX3_makeNew_29 : decode cX3_makeNew 29 = .ok (.aload_n 0, 1) := by decide +kernel
theorem dX3_makeNew_30 : decode cX3_makeNew 30 = .ok (.getfield 15, 3) := by decide +kernel
theorem dX3_makeNew_33 : decode cX3_makeNew 33 = .ok (.iload_n 1, 1) := by decide +kernel
theorem dX3_makeNew_34 : decode cX3_makeNew 34 = .ok (.lconst 0, 1) := by decide +kernel
theorem dX3_makeNew_35 : decode cX3_makeNew 35 = .ok (.lastore, 1) := by decide +kernel
theorem dX3_makeNew_36 : decode cX3_makeNew 36 = .ok (.iinc 1 1, 3) := by decide +kernel
theorem dX3_makeNew_39 : decode cX3_makeNew 39 = .ok (.goto (-19), 3) := by decide +kernel
theorem dX3_makeNew_42 : decode cX3_makeNew 42 = .ok (.return_, 1) := by decide +kernel
theorem dX3_copyFrom_0 : decode cX3_copyFrom 0 = .ok (.aload_n 0, 1) := by decide +kernel
theorem dX3_copyFrom_1 : decode cX3_copyFrom 1 = .ok (.aload_n 1, 1) := by decide +kernel
theorem dX3_copyFrom_2 : decode cX3_copyFrom 2 = .ok (.getfield 19, 3) := by decide +kernel
theorem dX3_copyFrom_5 : decode cX3_copyFrom 5 = .ok (.aload_n 1, 1) := by decide +kernel
theorem dX3_copyFrom_6 : decode cX3_copyFrom 6 = .ok (.getfield 22, 3) := by decide +kernel
theorem dX3_copyFrom_9 : decode cX3_copyFrom 9 = .ok (.aload_n 1, 1) := by decide +kernel
theorem dX3_copyFrom_10 : decode cX3_copyFrom 10 = .ok (.getfield 25, 3) := by decide +kernel
theorem dX3_copyFrom_13 : decode cX3_copyFrom 13 = .ok (.aload_n 1, 1) := by decide +kernel
theorem dX3_copyFrom_14 : decode cX3_copyFrom 14 = .ok (.getfield 28, 3) := by decide +kernel
theorem dX3_copyFrom_17 : decode cX3_copyFrom 17 = .ok (.invokevirtual 31, 3) := by decide +kernel
theorem dX3_copyFrom_20 : decode cX3_copyFrom 20 = .ok (.aload_n 0, 1) := by decide +kernel
theorem dX3_copyFrom_21 : decode cX3_copyFrom 21 = .ok (.aload_n 1, 1) := by decide +kernel
theorem dX3_copyFrom_22 : decode cX3_copyFrom 22 = .ok (.getfield 35, 3) := by decide +kernel
theorem dX3_copyFrom_25 : decode cX3_copyFrom 25 = .ok (.putfield 35, 3) := by decide +kernel
theorem dX3_copyFrom_28 : decode cX3_copyFrom 28 = .ok (.aload_n 0, 1) := by decide +kernel
theorem dX3_copyFrom_29 : decode cX3_copyFrom 29 = .ok (.aload_n 1, 1) := by decide +kernel
theorem dX3_copyFrom_30 : decode cX3_copyFrom 30 = .ok (.getfield 38, 3) := by decide +kernel
theorem dX3_copyFrom_33 : decode cX3_copyFrom 33 = .ok (.putfield 38, 3) := by decide +kernel
theorem dX3_copyFrom_36 : decode cX3_copyFrom 36 = .ok (.aload_n 1, 1) := by decide +kernel
theorem dX3_copyFrom_37 : decode cX3_copyFrom 37 = .ok (.getfield 15, 3) := by decide +kernel
theorem dX3_copyFrom_40 : decode cX3_copyFrom 40 = .ok (.iconst 0, 1) := by decide +kernel
theorem dX3_copyFrom_41 : decode cX3_copyFrom 41 = .ok (.aload_n 0, 1) := by decide +kernel
theorem dX3_copyFrom_42 : decode cX3_copyFrom 42 = .ok (.getfield 15, 3) := by decide +kernel
theorem dX3_copyFrom_45 : decode cX3_copyFrom 45 = .ok (.iconst 0, 1) := by decide +kernel
theorem dX3_copyFrom_46 : decode cX3_copyFrom 46 = .ok (.aload_n 0, 1) := by decide +kernel
theorem dX3_copyFrom_47 : decode cX3_copyFrom 47 = .ok (.getfield 15, 3) := by decide +kernel
theorem dX3_copyFrom_50 : decode cX3_copyFrom 50 = .ok (.arraylength, 1) := by decide +kernel
theorem dX3_copyFrom_51 : decode cX3_copyFrom 51 = .ok (.invokestatic 41, 3) := by decide +kernel
theorem dX3_copyFrom_54 : decode cX3_copyFrom 54 = .ok (.return_, 1) := by decide +kernel
theorem dX3_bit_0 : decode cX3_bit 0 = .ok (.iconst 1, 1) := by decide +kernel
theorem dX3_bit_1 : decode cX3_bit 1 = .ok (.aload_n 0, 1) := by decide +kernel
theorem dX3_bit_2 : decode cX3_bit 2 = .ok (.getfield 9, 3) := by decide +kernel
theorem dX3_bit_5 : decode cX3_bit 5 = .ok (.ishl, 1) := by decide +kernel
theorem dX3_bit_6 : decode cX3_bit 6 = .ok (.ireturn, 1) := by decide +kernel
theorem dX3_isIn_0 : decode cX3_isIn 0 = .ok (.iload_n 1, 1) := by decide +kernel
theorem dX3_isIn_1 : decode cX3_isIn 1 = .ok (.aload_n 0, 1) := by decide +kernel
theorem dX3_isIn_2 : decode cX3_isIn 2 = .ok (.getfield 9, 3) := by decide +kernel
theorem dX3_isIn_5 : decode cX3_isIn 5 = .ok (.ishr, 1) := by decide +kernel
theorem dX3_isIn_6 : decode cX3_isIn 6 = .ok (.iconst 1, 1) := by decide +kernel
theorem dX3_isIn_7 : decode cX3_isIn 7 = .ok (.iand, 1) := by decide +kernel
theorem dX3_isIn_8 : decode cX3_isIn 8 = .ok (.ifCond .eq 7, 3) := by decide +kernel
theorem dX3_isIn_11 : decode cX3_isIn 11 = .ok (.iconst 1, 1) := by decide +kernel
theorem dX3_isIn_12 : decode cX3_isIn 12 = .ok (.goto 4, 3) := by decide +kernel
theorem dX3_isIn_15 : decode cX3_isIn 15 = .ok (.iconst 0, 1) := by decide +kernel
theorem dX3_isIn_16 : decode cX3_isIn 16 = .ok (.ireturn, 1) := by decide +kernel
theorem dX3_markConflict_0 : decode cX3_markConflict 0 = .ok (.aload_n 0, 1) := by decide +kernel
theorem dX3_markConflict_1 : decode cX3_markConflict 1 = .ok (.iload_n 2, 1) := by decide +kernel
theorem dX3_markConflict_2 : decode cX3_markConflict 2 = .ok (.ifCond .eq 15, 3) := by decide +kernel
theorem dX3_markConflict_5 : decode cX3_markConflict 5 = .ok (.aload_n 0, 1) := by decide +kernel
theorem dX3_markConflict_6 : decode cX3_markConflict 6 = .ok (.getfield 35, 3) := by decide +kernel
theorem dX3_markConflict_9 : decode cX3_markConflict 9 = .ok (.aload_n 1, 1) := by decide +kernel
theorem dX3_markConflict_10 : decode cX3_markConflict 10 = .ok (.invokevirtual 47, 3) := by decide +kernel
theorem dX3_markConflict_13 : decode cX3_markConflict 13 = .ok (.ior, 1) := by decide +kernel
theorem dX3_markConflict_14 : decode cX3_markConflict 14 = .ok (.goto 14, 3) := by decide +kernel
theorem dX3_markConflict_17 : decode cX3_markConflict 17 = .ok (.aload_n 0, 1) := by decide +kernel
theorem dX3_markConflict_18 : decode cX3_markConflict 18 = .ok (.getfield 35, 3) := by decide +kernel
theorem dX3_markConflict_21 : decode cX3_markConflict 21 = .ok (.aload_n 1, 1) := by decide +kernel
theorem dX3_markConflict_22 : decode cX3_markConflict 22 = .ok (.invokevirtual 47, 3) := by decide +kernel
theorem dX3_markConflict_25 : decode cX3_markConflict 25 = .ok (.iconst (-1), 1) := by decide +kernel
theorem dX3_markConflict_26 : decode cX3_markConflict 26 = .ok (.ixor, 1) := by decide +kernel
theorem dX3_markConflict_27 : decode cX3_markConflict 27 = .ok (.iand, 1) := by decide +kernel
theorem dX3_markConflict_28 : decode cX3_markConflict 28 = .ok (.putfield 35, 3) := by decide +kernel
theorem dX3_markConflict_31 : decode cX3_markConflict 31 = .ok (.return_, 1) := by decide +kernel
theorem dX3_busyOn_0 : decode cX3_busyOn 0 = .ok (.iload_n 1, 1) := by decide +kernel
theorem dX3_busyOn_1 : decode cX3_busyOn 1 = .ok (.bipush 8, 2) := by decide +kernel
theorem dX3_busyOn_3 : decode cX3_busyOn 3 = .ok (.idiv, 1) := by decide +kernel
theorem dX3_busyOn_4 : decode cX3_busyOn 4 = .ok (.istore_n 2, 1) := by decide +kernel
theorem dX3_busyOn_5 : decode cX3_busyOn 5 = .ok (.iload_n 1, 1) := by decide +kernel
theorem dX3_busyOn_6 : decode cX3_busyOn 6 = .ok (.ifCond .lt 12, 3) := by decide +kernel
theorem dX3_busyOn_9 : decode cX3_busyOn 9 = .ok (.iload_n 2, 1) := by decide +kernel
theorem dX3_busyOn_10 : decode cX3_busyOn 10 = .ok (.aload_n 0, 1) := by decide +kernel
theorem dX3_busyOn_11 : decode cX3_busyOn 11 = .ok (.getfield 15, 3) := by decide +kernel
theorem dX3_busyOn_14 : decode cX3_busyOn 14 = .ok (.arraylength, 1) := by decide +kernel
theorem dX3_busyOn_15 : decode cX3_busyOn 15 = .ok (.if_icmp .lt 5, 3) := by decide +kernel
theorem dX3_busyOn_18 : decode cX3_busyOn 18 = .ok (.iconst 0, 1) := by decide +kernel
theorem dX3_busyOn_19 : decode cX3_busyOn 19 = .ok (.ireturn, 1) := by decide +kernel
theorem dX3_busyOn_20 : decode cX3_busyOn 20 = .ok (.aload_n 0, 1) := by decide +kernel
theorem dX3_busyOn_21 : decode cX3_busyOn 21 = .ok (.getfield 15, 3) := by decide +kernel
theorem dX3_busyOn_24 : decode cX3_busyOn 24 = .ok (.iload_n 2, 1) := by decide +kernel
theorem dX3_busyOn_25 : decode cX3_busyOn 25 = .ok (.laload, 1) := by decide +kernel
theorem dX3_busyOn_26 : decode cX3_busyOn 26 = .ok (.iload_n 1, 1) := by decide +kernel
theorem dX3_busyOn_27 : decode cX3_busyOn 27 = .ok (.bipush 8, 2) := by decide +kernel
theorem dX3_busyOn_29 : decode cX3_busyOn 29 = .ok (.irem, 1) := by decide +kernel
theorem dX3_busyOn_30 : decode cX3_busyOn 30 = .ok (.bipush 8, 2) := by decide +kernel
theorem dX3_busyOn_32 : decode cX3_busyOn 32 = .ok (.imul, 1) := by decide +kernel
theorem dX3_busyOn_33 : decode cX3_busyOn 33 = .ok (.lushr, 1) := by decide +kernel
theorem dX3_busyOn_34 : decode cX3_busyOn 34 = .ok (.l2i, 1) := by decide +kernel
theorem dX3_busyOn_35 : decode cX3_busyOn 35 = .ok (.sipush 255, 3) := by decide +kernel
theorem dX3_busyOn_38 : decode cX3_busyOn 38 = .ok (.iand, 1) := by decide +kernel
theorem dX3_busyOn_39 : decode cX3_busyOn 39 = .ok (.ireturn, 1) := by decide +kernel
theorem dX3_isBusy_0 : decode cX3_isBusy 0 = .ok (.aload_n 0, 1) := by decide +kernel
theorem dX3_isBusy_1 : decode cX3_isBusy 1 = .ok (.iload_n 1, 1) := by decide +kernel
theorem dX3_isBusy_2 : decode cX3_isBusy 2 = .ok (.invokevirtual 51, 3) := by decide +kernel
theorem dX3_isBusy_5 : decode cX3_isBusy 5 = .ok (.iload_n 2, 1) := by decide +kernel
theorem dX3_isBusy_6 : decode cX3_isBusy 6 = .ok (.ishr, 1) := by decide +kernel
theorem dX3_isBusy_7 : decode cX3_isBusy 7 = .ok (.iconst 1, 1) := by decide +kernel
theorem dX3_isBusy_8 : decode cX3_isBusy 8 = .ok (.iand, 1) := by decide +kernel
theorem dX3_isBusy_9 : decode cX3_isBusy 9 = .ok (.ifCond .eq 7, 3) := by decide +kernel
theorem dX3_isBusy_12 : decode cX3_isBusy 12 = .ok (.iconst 1, 1) := by decide +kernel
theorem dX3_isBusy_13 : decode cX3_isBusy 13 = .ok (.goto 4, 3) := by decide +kernel
theorem dX3_isBusy_16 : decode cX3_isBusy 16 = .ok (.iconst 0, 1) := by decide +kernel
theorem dX3_isBusy_17 : decode cX3_isBusy 17 = .ok (.ireturn, 1) := by decide +kernel
theorem dX3_flipBusy_0 : decode cX3_flipBusy 0 = .ok (.iload_n 1, 1) := by decide +kernel
theorem dX3_flipBusy_1 : decode cX3_flipBusy 1 = .ok (.bipush 8, 2) := by decide +kernel
theorem dX3_flipBusy_3 : decode cX3_flipBusy 3 = .ok (.idiv, 1) := by decide +kernel
theorem dX3_flipBusy_4 : decode cX3_flipBusy 4 = .ok (.istore_n 3, 1) := by decide +kernel
theorem dX3_flipBusy_5 : decode cX3_flipBusy 5 = .ok (.iload_n 1, 1) := by decide +kernel
theorem dX3_flipBusy_6 : decode cX3_flipBusy 6 = .ok (.ifCond .lt 55, 3) := by decide +kernel
theorem dX3_flipBusy_9 : decode cX3_flipBusy 9 = .ok (.iload_n 3, 1) := by decide +kernel
theorem dX3_flipBusy_10 : decode cX3_flipBusy 10 = .ok (.aload_n 0, 1) := by decide +kernel
theorem dX3_flipBusy_11 : decode cX3_flipBusy 11 = .ok (.getfield 15, 3) := by decide +kernel
theorem dX3_flipBusy_14 : decode cX3_flipBusy 14 = .ok (.arraylength, 1) := by decide +kernel
theorem dX3_flipBusy_15 : decode cX3_flipBusy 15 = .ok (.if_icmp .ge 46, 3) := by decide +kernel
theorem dX3_flipBusy_18 : decode cX3_flipBusy 18 = .ok (.aload_n 0, 1) := by decide +kernel
theorem dX3_flipBusy_19 : decode cX3_flipBusy 19 = .ok (.dup, 1) := by decide +kernel
theorem dX3_flipBusy_20 : decode cX3_flipBusy 20 = .ok (.getfield 38, 3) := by decide +kernel
theorem dX3_flipBusy_23 : decode cX3_flipBusy 23 = .ok (.aload_n 0, 1) := by decide +kernel
theorem dX3_flipBusy_24 : decode cX3_flipBusy 24 = .ok (.iload_n 1, 1) := by decide +kernel
theorem dX3_flipBusy_25 : decode cX3_flipBusy 25 = .ok (.iload_n 2, 1) := by decide +kernel
theorem dX3_flipBusy_26 : decode cX3_flipBusy 26 = .ok (.invokevirtual 55, 3) := by decide +kernel
theorem dX3_flipBusy_29 : decode cX3_flipBusy 29 = .ok (.ifCond .eq 7, 3) := by decide +kernel
theorem dX3_flipBusy_32 : decode cX3_flipBusy 32 = .ok (.iconst (-1), 1) := by decide +kernel
theorem dX3_flipBusy_33 : decode cX3_flipBusy 33 = .ok (.goto 4, 3) := by decide +kernel
theorem dX3_flipBusy_36 : decode cX3_flipBusy 36 = .ok (.iconst 1, 1) := by decide +kernel
theorem dX3_flipBusy_37 : decode cX3_flipBusy 37 = .ok (.iadd, 1) := by decide +kernel
theorem dX3_flipBusy_38 : decode cX3_flipBusy 38 = .ok (.putfield 38, 3) := by decide +kernel
theorem dX3_flipBusy_41 : decode cX3_flipBusy 41 = .ok (.aload_n 0, 1) := by decide +kernel
theorem dX3_flipBusy_42 : decode cX3_flipBusy 42 = .ok (.getfield 15, 3) := by decide +kernel
theorem dX3_flipBusy_45 : decode cX3_flipBusy 45 = .ok (.iload_n 3, 1) := by decide +kernel
theorem dX3_flipBusy_46 : decode cX3_flipBusy 46 = .ok (.dup2, 1) := by decide +kernel
theorem dX3_flipBusy_47 : decode cX3_flipBusy 47 = .ok (.laload, 1) := by decide +kernel
theorem dX3_flipBusy_48 : decode cX3_flipBusy 48 = .ok (.lconst 1, 1) := by decide +kernel
theorem dX3_flipBusy_49 : decode cX3_flipBusy 49 = .ok (.iload_n 1, 1) := by decide +kernel
theorem dX3_flipBusy_50 : decode cX3_flipBusy 50 = .ok (.bipush 8, 2) := by decide +kernel
theorem dX3_flipBusy_52 : decode cX3_flipBusy 52 = .ok (.irem, 1) := by decide +kernel
theorem dX3_flipBusy_53 : decode cX3_flipBusy 53 = .ok (.bipush 8, 2) := by decide +kernel
theorem dX3_flipBusy_55 : decode cX3_flipBusy 55 = .ok (.imul, 1) := by decide +kernel
theorem dX3_flipBusy_56 : decode cX3_flipBusy 56 = .ok (.iload_n 2, 1) := by decide +kernel
theorem dX3_flipBusy_57 : decode cX3_flipBusy 57 = .ok (.iadd, 1) := by decide +kernel
theorem dX3_flipBusy_58 : decode cX3_flipBusy 58 = .ok (.lshl, 1) := by decide +kernel
theorem dX3_flipBusy_59 : decode cX3_flipBusy 59 = .ok (.lxor, 1) := by decide +kernel
theorem dX3_flipBusy_60 : decode cX3_flipBusy 60 = .ok (.lastore, 1) := by decide +kernel
theorem dX3_flipBusy_61 : decode cX3_flipBusy 61 = .ok (.return_, 1) := by decide +kernel
theorem dX4_init_0 : decode cX4_init 0 = .ok (.aload_n 0, 1) := by decide +kernel
theorem dX4_init_1 : decode cX4_init 1 = .ok (.invokespecial 3, 3) := by decide +kernel
theorem dX4_init_4 : decode cX4_init 4 = .ok (.aload_n 0, 1) := by decide +kernel
theorem dX4_init_5 : decode cX4_init 5 = .ok (.bipush 14, 2) := by decide +kernel
theorem dX4_init_7 : decode cX4_init 7 = .ok (.anewarray 9, 3) := by decide +kernel
theorem dX4_init_10 : decode cX4_init 10 = .ok (.putfield 11, 3) := by decide +kernel
theorem dX4_init_13 : decode cX4_init 13 = .ok (.iconst 0, 1) := by decide +kernel
theorem dX4_init_14 : decode cX4_init 14 = .ok (.istore_n 1, 1) := by decide +kernel
theorem dX4_init_15 : decode cX4_init 15 = .ok (.iload_n 1, 1) := by decide +kernel
theorem dX4_init_16 : decode cX4_init 16 = .ok (.aload_n 0, 1) := by decide +kernel
theorem dX4_init_17 : decode cX4_init 17 = .ok (.getfield 11, 3) := by decide +kernel
theorem dX4_init_20 : decode cX4_init 20 = .ok (.arraylength, 1) := by decide +kernel
theorem dX4_init_21 : decode cX4_init 21 = .ok (.if_icmp .ge 23, 3) := by decide +kernel
theorem dX4_init_24 : decode cX4_init 24 = .ok (.aload_n 0, 1) := by decide +kernel
theorem dX4_init_25 : decode cX4_init 25 = .ok (.getfield 11, 3) := by decide +kernel
theorem dX4_init_28 : decode cX4_init 28 = .ok (.iload_n 1, 1) := by decide +kernel
theorem dX4_init_29 : decode cX4_init 29 = .ok (.new 9, 3) := by decide +kernel
theorem dX4_init_32 : decode cX4_init 32 = .ok (.dup, 1) := by decide +kernel
theorem dX4_init_33 : decode cX4_init 33 = .ok (.iload_n 1, 1) := by decide +kernel
theorem dX4_init_34 : decode cX4_init 34 = .ok (.invokespecial 17, 3) := by decide +kernel
theorem dX4_init_37 : decode cX4_init 37 = .ok (.aastore, 1) := by decide +kernel
theorem dX4_init_38 : decode cX4_init 38 = .ok (.iinc 1 1, 3) := by decide +kernel
theorem dX4_init_41 : decode cX4_init 41 = .ok (.goto (-26), 3) := by decide +kernel
theorem dX4_init_44 : decode cX4_init 44 = .ok (.aload_n 0, 1) := by decide +kernel
theorem dX4_init_45 : decode cX4_init 45 = .ok (.bipush 8, 2) := by decide +kernel
theorem dX4_init_47 : decode cX4_init 47 = .ok (.anewarray 20, 3) := by decide +kernel
theorem dX4_init_50 : decode cX4_init 50 = .ok (.putfield 22, 3) := by decide +kernel
theorem dX4_init_53 : decode cX4_init 53 = .ok (.iconst 0, 1) := by decide +kernel
theorem dX4_init_54 : decode cX4_init 54 = .ok (.istore_n 1, 1) := by decide +kernel
theorem dX4_init_55 : decode cX4_init 55 = .ok (.iload_n 1, 1) := by decide +kernel
theorem dX4_init_56 : decode cX4_init 56 = .ok (.aload_n 0, 1) := by decide +kernel
theorem dX4_init_57 : decode cX4_init 57 = .ok (.getfield 22, 3) := by decide +kernel
theorem dX4_init_60 : decode cX4_init 60 = .ok (.arraylength, 1) := by decide +kernel
theorem dX4_init_61 : decode cX4_init 61 = .ok (.if_icmp .ge 23, 3) := by decide +kernel
theorem dX4_init_64 : decode cX4_init 64 = .ok (.aload_n 0, 1) := by decide +kernel
theorem dX4_init_65 : decode cX4_init 65 = .ok (.getfield 22, 3) := by decide +kernel
theorem dX4_init_68 : decode cX4_init 68 = .ok (.iload_n 1, 1) := by decide +kernel
theorem dX4_init_69 : decode cX4_init 69 = .ok (.new 20, 3) := by decide +kernel
theorem dX4_init_72 : decode cX4_init 72 = .ok (.dup, 1) := by decide +kernel
theorem dX4_init_73 : decode cX4_init 73 = .ok (.iload_n 1, 1) := by decide +kernel
theorem dX4_init_74 : decode cX4_init 74 = .ok (.invokespecial 26, 3) := by decide +kernel
theorem dX4_init_77 : decode cX4_init 77 = .ok (.aastore, 1) := by decide +kernel
theorem dX4_init_78 : decode cX4_init 78 = .ok (.iinc 1 1, 3) := by decide +kernel
theorem dX4_init_81 : decode cX4_init 81 = .ok (.goto (-26), 3) := by decide +kernel
theorem dX4_init_84 : decode cX4_init 84 = .ok (.aload_n 0, 1) := by decide +kernel
theorem dX4_init_85 : decode cX4_init 85 = .ok (.bipush 8, 2) := by decide +kernel
theorem dX4_init_87 : decode cX4_init 87 = .ok (.newarray .int, 2) := by decide +kernel
theorem dX4_init_89 : decode cX4_init 89 = .ok (.putfield 27, 3) := by decide +kernel
theorem dX4_init_92 : decode cX4_init 92 = .ok (.return_, 1) := by decide +kernel
theorem dX4_makeNew_0 : decode cX4_makeNew 0 = .ok (.aload_n 0, 1) := by decide +kernel
theorem dX4_makeNew_1 : decode cX4_makeNew 1 = .ok (.getfield 11, 3) := by decide +kernel
theorem dX4_makeNew_4 : decode cX4_makeNew 4 = .ok (.astore_n 1, 1) := by decide +kernel
theorem dX4_makeNew_5 : decode cX4_makeNew 5 = .ok (.aload_n 1, 1) := by decide +kernel
theorem dX4_makeNew_6 : decode cX4_makeNew 6 = .ok (.arraylength, 1) := by decide +kernel
theorem dX4_makeNew_7 : decode cX4_makeNew 7 = .ok (.istore_n 2, 1) := by decide +kernel
theorem dX4_makeNew_8 : decode cX4_makeNew 8 = .ok (.iconst 0, 1) := by decide +kernel
theorem dX4_makeNew_9 : decode cX4_makeNew 9 = .ok (.istore_n 3, 1) := by decide +kernel
theorem dX4_makeNew_10 : decode cX4_makeNew 10 = .ok (.iload_n 3, 1) := by decide +kernel
theorem dX4_makeNew_11 : decode cX4_makeNew 11 = .ok (.iload_n 2, 1) := by decide +kernel
theorem dX4_makeNew_12 : decode cX4_makeNew 12 = .ok (.if_icmp .ge 19, 3) := by decide +kernel
theorem dX4_makeNew_15 : decode cX4_makeNew 15 = .ok (.aload_n 1, 1) := by decide +kernel
theorem dX4_makeNew_16 : decode cX4_makeNew 16 = .ok (.iload_n 3, 1) := by decide +kernel
theorem dX4_makeNew_17 : decode cX4_makeNew 17 = .ok (.aaload, 1) := by decide +kernel
theorem dX4_makeNew_18 : decode cX4_makeNew 18 = .ok (.astore 4, 2) := by decide +kernel
theorem dX4_makeNew_20 : decode cX4_makeNew 20 = .ok (.aload 4, 2) := by decide +kernel
theorem dX4_makeNew_22 : decode cX4_makeNew 22 = .ok (.invokevirtual 31, 3) := by decide +kernel
theorem dX4_makeNew_25 : decode cX4_makeNew 25 = .ok (.iinc 3 1, 3) := by decide +kernel
theorem dX4_makeNew_28 : decode cX4_makeNew 28 = .ok (.goto (-18), 3) := by decide +kernel
theorem dX4_makeNew_31 : decode cX4_makeNew 31 = .ok (.aload_n 0, 1) := by decide +kernel
theorem dX4_makeNew_32 : decode cX4_makeNew 32 = .ok (.getfield 22, 3) := by decide +kernel
theorem dX4_makeNew_35 : decode cX4_makeNew 35 = .ok (.astore_n 1, 1) := by decide +kernel
theorem dX4_makeNew_36 : decode cX4_makeNew 36 = .ok (.aload_n 1, 1) := by decide +kernel
theorem dX4_makeNew_37 : decode cX4_makeNew 37 = .ok (.arraylength, 1) := by decide +kernel
theorem dX4_makeNew_38 : decode cX4_makeNew 38 = .ok (.istore_n 2, 1) := by decide +kernel
theorem dX4_makeNew_39 : decode cX4_makeNew 39 = .ok (.iconst 0, 1) := by decide +kernel
theorem dX4_makeNew_40 : decode cX4_makeNew 40 = .ok (.istore_n 3, 1) := by decide +kernel
theorem dX4_makeNew_41 : decode cX4_makeNew 41 = .ok (.iload_n 3, 1) := by decide +kernel
theorem dX4_makeNew_42 : decode cX4_makeNew 42 = .ok (.iload_n 2, 1) := by decide +kernel
theorem dX4_makeNew_43 : decode cX4_makeNew 43 = .ok (.if_icmp .ge 19, 3) := by decide +kernel
theorem dX4_makeNew_46 : decode cX4_makeNew 46 = .ok (.aload_n 1, 1) := by decide +kernel
theorem dX4_makeNew_47 : decode cX4_makeNew 47 = .ok (.iload_n 3, 1) := by decide +kernel
theorem dX4_makeNew_48 : decode cX4_makeNew 48 = .ok (.aaload, 1) := by decide +kernel
theorem dX4_makeNew_49 : decode cX4_makeNew 49 = .ok (.astore 4, 2) := by decide +kernel
theorem dX4_makeNew_51 : decode cX4_makeNew 51 = .ok (.aload 4, 2) := by decide +kernel
theorem dX4_makeNew_53 : decode cX4_makeNew 53 = .ok (.invokevirtual 34, 3) := by decide +kernel
theorem dX4_makeNew_56 : decode cX4_makeNew 56 = .ok (.iinc 3 1, 3) := by decide +kernel
theorem dX4_makeNew_59 : decode cX4_makeNew 59 = .ok (.goto (-18), 3) := by decide +kernel
theorem dX4_makeNew_62 : decode cX4_makeNew 62 = .ok (.aload_n 0, 1) := by decide +kernel
theorem dX4_makeNew_63 : decode cX4_makeNew 63 = .ok (.iconst 0, 1) := by decide +kernel
theorem dX4_makeNew_64 : decode cX4_makeNew 64 = .ok (.putfield 35, 3) := by decide +kernel
theorem dX4_makeNew_67 : decode cX4_makeNew 67 = .ok (.aload_n 0, 1) := by decide +kernel
theorem dX4_makeNew_68 : decode cX4_makeNew 68 = .ok (.iconst 0, 1) := by decide +kernel
theorem dX4_makeNew_69 : decode cX4_makeNew 69 = .ok (.putfield 39, 3) := by decide +kernel
theorem dX4_makeNew_72 : decode cX4_makeNew 72 = .ok (.aload_n 0, 1) := by decide +kernel
theorem dX4_makeNew_73 : decode cX4_makeNew 73 = .ok (.iconst 0, 1) := by decide +kernel
theorem dX4_makeNew_74 : decode cX4_makeNew 74 = .ok (.putfield 42, 3) := by decide +kernel
theorem dX4_makeNew_77 : decode cX4_makeNew 77 = .ok (.aload_n 0, 1) := by decide +kernel
theorem dX4_makeNew_78 : decode cX4_makeNew 78 = .ok (.iconst 0, 1) := by decide +kernel
theorem dX4_makeNew_79 : decode cX4_makeNew 79 = .ok (.putfield 45, 3) := by decide +kernel
theorem dX4_makeNew_82 : decode cX4_makeNew 82 = .ok (.aload_n 0, 1) := by decide +kernel
theorem dX4_makeNew_83 : decode cX4_makeNew 83 = .ok (.iconst 0, 1) := by decide +kernel
theorem dX4_makeNew_84 : decode cX4_makeNew 84 = .ok (.putfield 48, 3) := by decide +kernel
theorem dX4_makeNew_87 : decode cX4_makeNew 87 = .ok (.return_, 1) := by decide +kernel
theorem dX4_copyFrom_0 : decode cX4_copyFrom 0 = .ok (.iconst 0, 1) := by decide +kernel
theorem dX4_copyFrom_1 : decode cX4_copyFrom 1 = .ok (.istore_n 2, 1) := by decide +kernel
theorem dX4_copyFrom_2 : decode cX4_copyFrom 2 = .ok (.iload_n 2, 1) := by decide +kernel
theorem dX4_copyFrom_3 : decode cX4_copyFrom 3 = .ok (.bipush 14, 2) := by decide +kernel
theorem dX4_copyFrom_5 : decode cX4_copyFrom 5 = .ok (.if_icmp .ge 24, 3) := by decide +kernel
theorem dX4_copyFrom_8 : decode cX4_copyFrom 8 = .ok (.aload_n 0, 1) := by decide +kernel
theorem dX4_copyFrom_9 : decode cX4_copyFrom 9 = .ok (.getfield 11, 3) := by decide +kernel
theorem dX4_copyFrom_12 : decode cX4_copyFrom 12 = .ok (.iload_n 2, 1) := by decide +kernel
theorem dX4_copyFrom_13 : decode cX4_copyFrom 13 = .ok (.aaload, 1) := by decide +kernel
theorem dX4_copyFrom_14 : decode cX4_copyFrom 14 = .ok (.aload_n 1, 1) := by decide +kernel
theorem dX4_copyFrom_15 : decode cX4_copyFrom 15 = .ok (.getfield 11, 3) := by decide +kernel
theorem dX4_copyFrom_18 : decode cX4_copyFrom 18 = .ok (.iload_n 2, 1) := by decide +kernel
theorem dX4_copyFrom_19 : decode cX4_copyFrom 19 = .ok (.aaload, 1) := by decide +kernel
theorem dX4_copyFrom_20 : decode cX4_copyFrom 20 = .ok (.invokevirtual 51, 3) := by decide +kernel
theorem dX4_copyFrom_23 : decode cX4_copyFrom 23 = .ok (.iinc 2 1, 3) := by decide +kernel
theorem dX4_copyFrom_26 : decode cX4_copyFrom 26 = .ok (.goto (-24), 3) := by decide +kernel
theorem dX4_copyFrom_29 : decode cX4_copyFrom 29 = .ok (.iconst 0, 1) := by decide +kernel
theorem dX4_copyFrom_30 : decode cX4_copyFrom 30 = .ok (.istore_n 2, 1) := by decide +kernel
theorem dX4_copyFrom_31 : decode cX4_copyFrom 31 = .ok (.iload_n 2, 1) := by decide +kernel
theorem dX4_copyFrom_32 : decode cX4_copyFrom 32 = .ok (.bipush 8, 2) := by decide +kernel
theorem dX4_copyFrom_34 : decode cX4_copyFrom 34 = .ok (.if_icmp .ge 24, 3) := by decide +kernel
theorem dX4_copyFrom_37 : decode cX4_copyFrom 37 = .ok (.aload_n 0, 1) := by decide +kernel
theorem dX4_copyFrom_38 : decode cX4_copyFrom 38 = .ok (.getfield 22, 3) := by decide +kernel
theorem dX4_copyFrom_41 : decode cX4_copyFrom 41 = .ok (.iload_n 2, 1) := by decide +kernel
theorem dX4_copyFrom_42 : decode cX4_copyFrom 42 = .ok (.aaload, 1) := by decide +kernel
theorem dX4_copyFrom_43 : decode cX4_copyFrom 43 = .ok (.aload_n 1, 1) := by decide +kernel
theorem dX4_copyFrom_44 : decode cX4_copyFrom 44 = .ok (.getfield 22, 3) := by decide +kernel
theorem dX4_copyFrom_47 : decode cX4_copyFrom 47 = .ok (.iload_n 2, 1) := by decide +kernel
theorem dX4_copyFrom_48 : decode cX4_copyFrom 48 = .ok (.aaload, 1) := by decide +kernel
theorem dX4_copyFrom_49 : decode cX4_copyFrom 49 = .ok (.invokevirtual 55, 3) := by decide +kernel
theorem dX4_copyFrom_52 : decode cX4_copyFrom 52 = .ok (.iinc 2 1, 3) := by decide +kernel
theorem dX4_copyFrom_55 : decode cX4_copyFrom 55 = .ok (.goto (-24), 3) := by decide +kernel
theorem dX4_copyFrom_58 : decode cX4_copyFrom 58 = .ok (.aload_n 1, 1) := by decide +kernel
theorem dX4_copyFrom_59 : decode cX4_copyFrom 59 = .ok (.getfield 27, 3) := by decide +kernel
theorem dX4_copyFrom_62 : decode cX4_copyFrom 62 = .ok (.iconst 0, 1) := by decide +kernel
theorem dX4_copyFrom_63 : decode cX4_copyFrom 63 = .ok (.aload_n 0, 1) := by decide +kernel
theorem dX4_copyFrom_64 : decode cX4_copyFrom 64 = .ok (.getfield 27, 3) := by decide +kernel
theorem dX4_copyFrom_67 : decode cX4_copyFrom 67 = .ok (.iconst 0, 1) := by decide +kernel
theorem dX4_copyFrom_68 : decode cX4_copyFrom 68 = .ok (.bipush 8, 2) := by decide +kernel
theorem dX4_copyFrom_70 : decode cX4_copyFrom 70 = .ok (.invokestatic 58, 3) := by decide +kernel
theorem dX4_copyFrom_73 : decode cX4_copyFrom 73 = .ok (.aload_n 0, 1) := by decide +kernel
theorem dX4_copyFrom_74 : decode cX4_copyFrom 74 = .ok (.aload_n 1, 1) := by decide +kernel
theorem dX4_copyFrom_75 : decode cX4_copyFrom 75 = .ok (.getfield 35, 3) := by decide +kernel
theorem dX4_copyFrom_78 : decode cX4_copyFrom 78 = .ok (.putfield 35, 3) := by decide +kernel
theorem dX4_copyFrom_81 : decode cX4_copyFrom 81 = .ok (.aload_n 0, 1) := by decide +kernel
theorem dX4_copyFrom_82 : decode cX4_copyFrom 82 = .ok (.aload_n 1, 1) := by decide +kernel
theorem dX4_copyFrom_83 : decode cX4_copyFrom 83 = .ok (.getfield 39, 3) := by decide +kernel
theorem dX4_copyFrom_86 : decode cX4_copyFrom 86 = .ok (.putfield 39, 3) := by decide +kernel
theorem dX4_copyFrom_89 : decode cX4_copyFrom 89 = .ok (.aload_n 0, 1) := by decide +kernel
theorem dX4_copyFrom_90 : decode cX4_copyFrom 90 = .ok (.aload_n 1, 1) := by decide +kernel
theorem dX4_copyFrom_91 : decode cX4_copyFrom 91 = .ok (.getfield 42, 3) := by decide +kernel
theorem dX4_copyFrom_94 : decode cX4_copyFrom 94 = .ok (.putfield 42, 3) := by decide +kernel
theorem dX4_copyFrom_97 : decode cX4_copyFrom 97 = .ok (.aload_n 0, 1) := by decide +kernel
theorem dX4_copyFrom_98 : decode cX4_copyFrom 98 = .ok (.aload_n 1, 1) := by decide +kernel
theorem dX4_copyFrom_99 : decode cX4_copyFrom 99 = .ok (.getfield 45, 3) := by decide +kernel
theorem dX4_copyFrom_102 : decode cX4_copyFrom 102 = .ok (.putfield 45, 3) := by decide +kernel
theorem dX4_copyFrom_105 : decode cX4_copyFrom 105 = .ok (.aload_n 0, 1) := by decide +kernel
theorem dX4_copyFrom_106 : decode cX4_copyFrom 106 = .ok (.aload_n 1, 1) := by decide +kernel
theorem dX4_copyFrom_107 : decode cX4_copyFrom 107 = .ok (.getfield 48, 3) := by decide +kernel
theorem dX4_copyFrom_110 : decode cX4_copyFrom 110 = .ok (.putfield 48, 3) := by decide +kernel
theorem dX4_copyFrom_113 : decode cX4_copyFrom 113 = .ok (.return_, 1) := by decide +kernel
theorem dX4_enrol_0 : decode cX4_enrol 0 = .ok (.aload_n 0, 1) := by decide +kernel
theorem dX4_enrol_1 : decode cX4_enrol 1 = .ok (.getfield 35, 3) := by decide +kernel
theorem dX4_enrol_4 : decode cX4_enrol 4 = .ok (.bipush 14, 2) := by decide +kernel
theorem dX4_enrol_6 : decode cX4_enrol 6 = .ok (.if_icmp .lt 5, 3) := by decide +kernel
theorem dX4_enrol_9 : decode cX4_enrol 9 = .ok (.iconst (-1), 1) := by decide +kernel
theorem dX4_enrol_10 : decode cX4_enrol 10 = .ok (.ireturn, 1) := by decide +kernel
theorem dX4_enrol_11 : decode cX4_enrol 11 = .ok (.aload_n 0, 1) := by decide +kernel
theorem dX4_enrol_12 : decode cX4_enrol 12 = .ok (.getfield 11, 3) := by decide +kernel
theorem dX4_enrol_15 : decode cX4_enrol 15 = .ok (.aload_n 0, 1) := by decide +kernel
theorem dX4_enrol_16 : decode cX4_enrol 16 = .ok (.getfield 35, 3) := by decide +kernel
theorem dX4_enrol_19 : decode cX4_enrol 19 = .ok (.aaload, 1) := by decide +kernel
theorem dX4_enrol_20 : decode cX4_enrol 20 = .ok (.iload_n 1, 1) := by decide +kernel
theorem dX4_enrol_21 : decode cX4_enrol 21 = .ok (.iload_n 2, 1) := by decide +kernel
theorem dX4_enrol_22 : decode cX4_enrol 22 = .ok (.iload_n 3, 1) := by decide +kernel
theorem dX4_enrol_23 : decode cX4_enrol 23 = .ok (.iload 4, 2) := by decide +kernel
theorem dX4_enrol_25 : decode cX4_enrol 25 = .ok (.invokevirtual 64, 3) := by decide +kernel
theorem dX4_enrol_28 : decode cX4_enrol 28 = .ok (.aload_n 0, 1) := by decide +kernel
theorem dX4_enrol_29 : decode cX4_enrol 29 = .ok (.dup, 1) := by decide +kernel
theorem dX4_enrol_30 : decode cX4_enrol 30 = .ok (.getfield 35, 3) := by decide +kernel
theorem dX4_enrol_33 : decode cX4_enrol 33 = .ok (.iconst 1, 1) := by decide +kernel
theorem dX4_enrol_34 : decode cX4_enrol 34 = .ok (.iadd, 1) := by decide +kernel
theorem dX4_enrol_35 : decode cX4_enrol 35 = .ok (.putfield 35, 3) := by decide +kernel
theorem dX4_enrol_38 : decode cX4_enrol 38 = .ok (.aload_n 0, 1) := by decide +kernel
theorem dX4_enrol_39 : decode cX4_enrol 39 = .ok (.getfield 35, 3) := by decide +kernel
theorem dX4_enrol_42 : decode cX4_enrol 42 = .ok (.iconst 1, 1) := by decide +kernel
theorem dX4_enrol_43 : decode cX4_enrol 43 = .ok (.isub, 1) := by decide +kernel
theorem dX4_enrol_44 : decode cX4_enrol 44 = .ok (.ireturn, 1) := by decide +kernel
theorem dX4_register_0 : decode cX4_register 0 = .ok (.aload_n 0, 1) := by decide +kernel
theorem dX4_register_1 : decode cX4_register 1 = .ok (.getfield 39, 3) := by decide +kernel
theorem dX4_register_4 : decode cX4_register 4 = .ok (.bipush 8, 2) := by decide +kernel
theorem dX4_register_6 : decode cX4_register 6 = .ok (.if_icmp .lt 5, 3) := by decide +kernel
theorem dX4_register_9 : decode cX4_register 9 = .ok (.iconst (-1), 1) := by decide +kernel
theorem dX4_register_10 : decode cX4_register 10 = .ok (.ireturn, 1) := by decide +kernel
theorem dX4_register_11 : decode cX4_register 11 = .ok (.aload_n 0, 1) := by decide +kernel
theorem dX4_register_12 : decode cX4_register 12 = .ok (.getfield 22, 3) := by decide +kernel
theorem dX4_register_15 : decode cX4_register 15 = .ok (.aload_n 0, 1) := by decide +kernel
theorem dX4_register_16 : decode cX4_register 16 = .ok (.getfield 39, 3) := by decide +kernel
theorem dX4_register_19 : decode cX4_register 19 = .ok (.aaload, 1) := by decide +kernel
theorem dX4_register_20 : decode cX4_register 20 = .ok (.iload_n 1, 1) := by decide +kernel
theorem dX4_register_21 : decode cX4_register 21 = .ok (.iload_n 2, 1) := by decide +kernel
theorem dX4_register_22 : decode cX4_register 22 = .ok (.iload_n 3, 1) := by decide +kernel
theorem dX4_register_23 : decode cX4_register 23 = .ok (.iload 4, 2) := by decide +kernel
theorem dX4_register_25 : decode cX4_register 25 = .ok (.invokevirtual 68, 3) := by decide +kernel
theorem dX4_register_28 : decode cX4_register 28 = .ok (.aload_n 0, 1) := by decide +kernel
theorem dX4_register_29 : decode cX4_register 29 = .ok (.dup, 1) := by decide +kernel
theorem dX4_register_30 : decode cX4_register 30 = .ok (.getfield 39, 3) := by decide +kernel
theorem dX4_register_33 : decode cX4_register 33 = .ok (.iconst 1, 1) := by decide +kernel
theorem dX4_register_34 : decode cX4_register 34 = .ok (.iadd, 1) := by decide +kernel
theorem dX4_register_35 : decode cX4_register 35 = .ok (.putfield 39, 3) := by decide +kernel
theorem dX4_register_38 : decode cX4_register 38 = .ok (.aload_n 0, 1) := by decide +kernel
theorem dX4_register_39 : decode cX4_register 39 = .ok (.getfield 39, 3) := by decide +kernel
theorem dX4_register_42 : decode cX4_register 42 = .ok (.iconst 1, 1) := by decide +kernel
theorem dX4_register_43 : decode cX4_register 43 = .ok (.isub, 1) := by decide +kernel
theorem dX4_register_44 : decode cX4_register 44 = .ok (.ireturn, 1) := by decide +kernel
theorem dX4_committeesOf_0 : decode cX4_committeesOf 0 = .ok (.iconst 0, 1) := by decide +kernel
theorem dX4_committeesOf_1 : decode cX4_committeesOf 1 = .ok (.istore_n 3, 1) := by decide +kernel
theorem dX4_committeesOf_2 : decode cX4_committeesOf 2 = .ok (.aload_n 0, 1) := by decide +kernel
theorem dX4_committeesOf_3 : decode cX4_committeesOf 3 = .ok (.getfield 22, 3) := by decide +kernel
theorem dX4_committeesOf_6 : decode cX4_committeesOf 6 = .ok (.astore 4, 2) := by decide +kernel
theorem dX4_committeesOf_8 : decode cX4_committeesOf 8 = .ok (.aload 4, 2) := by decide +kernel
theorem dX4_committeesOf_10 : decode cX4_committeesOf 10 = .ok (.arraylength, 1) := by decide +kernel
theorem dX4_committeesOf_11 : decode cX4_committeesOf 11 = .ok (.istore 5, 2) := by decide +kernel
theorem dX4_committeesOf_13 : decode cX4_committeesOf 13 = .ok (.iconst 0, 1) := by decide +kernel
theorem dX4_committeesOf_14 : decode cX4_committeesOf 14 = .ok (.istore 6, 2) := by decide +kernel
theorem dX4_committeesOf_16 : decode cX4_committeesOf 16 = .ok (.iload 6, 2) := by decide +kernel
theorem dX4_committeesOf_18 : decode cX4_committeesOf 18 = .ok (.iload 5, 2) := by decide +kernel
theorem dX4_committeesOf_20 : decode cX4_committeesOf 20 = .ok (.if_icmp .ge 50, 3) := by decide +kernel
theorem dX4_committeesOf_23 : decode cX4_committeesOf 23 = .ok (.aload 4, 2) := by decide +kernel
theorem dX4_committeesOf_25 : decode cX4_committeesOf 25 = .ok (.iload 6, 2) := by decide +kernel
theorem dX4_committeesOf_27 : decode cX4_committeesOf 27 = .ok (.aaload, 1) := by decide +kernel
theorem dX4_committeesOf_28 : decode cX4_committeesOf 28 = .ok (.astore 7, 2) := by decide +kernel
theorem dX4_committeesOf_30 : decode cX4_committeesOf 30 = .ok (.aload 7, 2) := by decide +kernel
theorem dX4_committeesOf_32 : decode cX4_committeesOf 32 = .ok (.aload_n 2, 1) := by decide +kernel
theorem dX4_committeesOf_33 : decode cX4_committeesOf 33 = .ok (.if_acmp .eq 31, 3) := by decide +kernel
theorem dX4_committeesOf_36 : decode cX4_committeesOf 36 = .ok (.aload 7, 2) := by decide +kernel
theorem dX4_committeesOf_38 : decode cX4_committeesOf 38 = .ok (.invokevirtual 69, 3) := by decide +kernel
theorem dX4_committeesOf_41 : decode cX4_committeesOf 41 = .ok (.ifCond .ne 23, 3) := by decide +kernel
theorem dX4_committeesOf_44 : decode cX4_committeesOf 44 = .ok (.aload_n 1, 1) := by decide +kernel
theorem dX4_committeesOf_45 : decode cX4_committeesOf 45 = .ok (.aload 7, 2) := by decide +kernel
theorem dX4_committeesOf_47 : decode cX4_committeesOf 47 = .ok (.getfield 73, 3) := by decide +kernel
theorem dX4_committeesOf_50 : decode cX4_committeesOf 50 = .ok (.invokevirtual 76, 3) := by decide +kernel
theorem dX4_committeesOf_53 : decode cX4_committeesOf 53 = .ok (.ifCond .eq 11, 3) := by decide +kernel
theorem dX4_committeesOf_56 : decode cX4_committeesOf 56 = .ok (.iload_n 3, 1) := by decide +kernel
theorem dX4_committeesOf_57 : decode cX4_committeesOf 57 = .ok (.aload 7, 2) := by decide +kernel
theorem dX4_committeesOf_59 : decode cX4_committeesOf 59 = .ok (.invokevirtual 80, 3) := by decide +kernel
theorem dX4_committeesOf_62 : decode cX4_committeesOf 62 = .ok (.ior, 1) := by decide +kernel
theorem dX4_committeesOf_63 : decode cX4_committeesOf 63 = .ok (.istore_n 3, 1) := by decide +kernel
theorem dX4_committeesOf_64 : decode cX4_committeesOf 64 = .ok (.iinc 6 1, 3) := by decide +kernel
theorem dX4_committeesOf_67 : decode cX4_committeesOf 67 = .ok (.goto (-51), 3) := by decide +kernel
theorem dX4_committeesOf_70 : decode cX4_committeesOf 70 = .ok (.iload_n 3, 1) := by decide +kernel
theorem dX4_committeesOf_71 : decode cX4_committeesOf 71 = .ok (.ireturn, 1) := by decide +kernel
theorem dX4_supervisedBy_0 : decode cX4_supervisedBy 0 = .ok (.iconst 0, 1) := by decide +kernel
theorem dX4_supervisedBy_1 : decode cX4_supervisedBy 1 = .ok (.istore_n 2, 1) := by decide +kernel
theorem dX4_supervisedBy_2 : decode cX4_supervisedBy 2 = .ok (.aload_n 0, 1) := by decide +kernel
theorem dX4_supervisedBy_3 : decode cX4_supervisedBy 3 = .ok (.getfield 22, 3) := by decide +kernel
theorem dX4_supervisedBy_6 : decode cX4_supervisedBy 6 = .ok (.astore_n 3, 1) := by decide +kernel
theorem dX4_supervisedBy_7 : decode cX4_supervisedBy 7 = .ok (.aload_n 3, 1) := by decide +kernel
theorem dX4_supervisedBy_8 : decode cX4_supervisedBy 8 = .ok (.arraylength, 1) := by decide +kernel
theorem dX4_supervisedBy_9 : decode cX4_supervisedBy 9 = .ok (.istore 4, 2) := by decide +kernel
theorem dX4_supervisedBy_11 : decode cX4_supervisedBy 11 = .ok (.iconst 0, 1) := by decide +kernel
theorem dX4_supervisedBy_12 : decode cX4_supervisedBy 12 = .ok (.istore 5, 2) := by decide +kernel
theorem dX4_supervisedBy_14 : decode cX4_supervisedBy 14 = .ok (.iload 5, 2) := by decide +kernel
theorem dX4_supervisedBy_16 : decode cX4_supervisedBy 16 = .ok (.iload 4, 2) := by decide +kernel
theorem dX4_supervisedBy_18 : decode cX4_supervisedBy 18 = .ok (.if_icmp .ge 35, 3) := by decide +kernel
theorem dX4_supervisedBy_21 : decode cX4_supervisedBy 21 = .ok (.aload_n 3, 1) := by decide +kernel
theorem dX4_supervisedBy_22 : decode cX4_supervisedBy 22 = .ok (.iload 5, 2) := by decide +kernel
theorem dX4_supervisedBy_24 : decode cX4_supervisedBy 24 = .ok (.aaload, 1) := by decide +kernel
theorem dX4_supervisedBy_25 : decode cX4_supervisedBy 25 = .ok (.astore 6, 2) := by decide +kernel
theorem dX4_supervisedBy_27 : decode cX4_supervisedBy 27 = .ok (.aload 6, 2) := by decide +kernel
theorem dX4_supervisedBy_29 : decode cX4_supervisedBy 29 = .ok (.getfield 84, 3) := by decide +kernel
theorem dX4_supervisedBy_32 : decode cX4_supervisedBy 32 = .ok (.aload_n 1, 1) := by decide +kernel
theorem dX4_supervisedBy_33 : decode cX4_supervisedBy 33 = .ok (.getfield 87, 3) := by decide +kernel
theorem dX4_supervisedBy_36 : decode cX4_supervisedBy 36 = .ok (.if_icmp .ne 11, 3) := by decide +kernel
theorem dX4_supervisedBy_39 : decode cX4_supervisedBy 39 = .ok (.iload_n 2, 1) := by decide +kernel
theorem dX4_supervisedBy_40 : decode cX4_supervisedBy 40 = .ok (.aload 6, 2) := by decide +kernel
theorem dX4_supervisedBy_42 : decode cX4_supervisedBy 42 = .ok (.invokevirtual 80, 3) := by decide +kernel
theorem dX4_supervisedBy_45 : decode cX4_supervisedBy 45 = .ok (.ior, 1) := by decide +kernel
theorem dX4_supervisedBy_46 : decode cX4_supervisedBy 46 = .ok (.istore_n 2, 1) := by decide +kernel
theorem dX4_supervisedBy_47 : decode cX4_supervisedBy 47 = .ok (.iinc 5 1, 3) := by decide +kernel
theorem dX4_supervisedBy_50 : decode cX4_supervisedBy 50 = .ok (.goto (-36), 3) := by decide +kernel
theorem dX4_supervisedBy_53 : decode cX4_supervisedBy 53 = .ok (.iload_n 2, 1) := by decide +kernel
theorem dX4_supervisedBy_54 : decode cX4_supervisedBy 54 = .ok (.ireturn, 1) := by decide +kernel
theorem dX4_hoursTaken_0 : decode cX4_hoursTaken 0 = .ok (.aload_n 1, 1) := by decide +kernel
theorem dX4_hoursTaken_1 : decode cX4_hoursTaken 1 = .ok (.iload_n 2, 1) := by decide +kernel
theorem dX4_hoursTaken_2 : decode cX4_hoursTaken 2 = .ok (.invokevirtual 90, 3) := by decide +kernel
theorem dX4_hoursTaken_5 : decode cX4_hoursTaken 5 = .ok (.istore 4, 2) := by decide +kernel
theorem dX4_hoursTaken_7 : decode cX4_hoursTaken 7 = .ok (.aload_n 0, 1) := by decide +kernel
theorem dX4_hoursTaken_8 : decode cX4_hoursTaken 8 = .ok (.getfield 22, 3) := by decide +kernel
theorem dX4_hoursTaken_11 : decode cX4_hoursTaken 11 = .ok (.astore 5, 2) := by decide +kernel
theorem dX4_hoursTaken_13 : decode cX4_hoursTaken 13 = .ok (.aload 5, 2) := by decide +kernel
theorem dX4_hoursTaken_15 : decode cX4_hoursTaken 15 = .ok (.arraylength, 1) := by decide +kernel
theorem dX4_hoursTaken_16 : decode cX4_hoursTaken 16 = .ok (.istore 6, 2) := by decide +kernel
theorem dX4_hoursTaken_18 : decode cX4_hoursTaken 18 = .ok (.iconst 0, 1) := by decide +kernel
theorem dX4_hoursTaken_19 : decode cX4_hoursTaken 19 = .ok (.istore 7, 2) := by decide +kernel
theorem dX4_hoursTaken_21 : decode cX4_hoursTaken 21 = .ok (.iload 7, 2) := by decide +kernel
theorem dX4_hoursTaken_23 : decode cX4_hoursTaken 23 = .ok (.iload 6, 2) := by decide +kernel
theorem dX4_hoursTaken_25 : decode cX4_hoursTaken 25 = .ok (.if_icmp .ge 45, 3) := by decide +kernel
theorem dX4_hoursTaken_28 : decode cX4_hoursTaken 28 = .ok (.aload 5, 2) := by decide +kernel
theorem dX4_hoursTaken_30 : decode cX4_hoursTaken 30 = .ok (.iload 7, 2) := by decide +kernel
theorem dX4_hoursTaken_32 : decode cX4_hoursTaken 32 = .ok (.aaload, 1) := by decide +kernel
theorem dX4_hoursTaken_33 : decode cX4_hoursTaken 33 = .ok (.astore 8, 2) := by decide +kernel
theorem dX4_hoursTaken_35 : decode cX4_hoursTaken 35 = .ok (.aload 8, 2) := by decide +kernel
theorem dX4_hoursTaken_37 : decode cX4_hoursTaken 37 = .ok (.aload_n 3, 1) := by decide +kernel
theorem dX4_hoursTaken_38 : decode cX4_hoursTaken 38 = .ok (.if_acmp .eq 26, 3) := by decide +kernel
theorem dX4_hoursTaken_41 : decode cX4_hoursTaken 41 = .ok (.aload_n 1, 1) := by decide +kernel
theorem dX4_hoursTaken_42 : decode cX4_hoursTaken 42 = .ok (.aload 8, 2) := by decide +kernel
theorem dX4_hoursTaken_44 : decode cX4_hoursTaken 44 = .ok (.getfield 73, 3) := by decide +kernel
theorem dX4_hoursTaken_47 : decode cX4_hoursTaken 47 = .ok (.invokevirtual 76, 3) := by decide +kernel
theorem dX4_hoursTaken_50 : decode cX4_hoursTaken 50 = .ok (.ifCond .eq 14, 3) := by decide +kernel
theorem dX4_hoursTaken_53 : decode cX4_hoursTaken 53 = .ok (.iload 4, 2) := by decide +kernel
theorem dX4_hoursTaken_55 : decode cX4_hoursTaken 55 = .ok (.aload 8, 2) := by decide +kernel
theorem dX4_hoursTaken_57 : decode cX4_hoursTaken 57 = .ok (.iload_n 2, 1) := by decide +kernel
theorem dX4_hoursTaken_58 : decode cX4_hoursTaken 58 = .ok (.invokevirtual 94, 3) := by decide +kernel
theorem dX4_hoursTaken_61 : decode cX4_hoursTaken 61 = .ok (.ior, 1) := by decide +kernel
theorem dX4_hoursTaken_62 : decode cX4_hoursTaken 62 = .ok (.istore 4, 2) := by decide +kernel
theorem dX4_hoursTaken_64 : decode cX4_hoursTaken 64 = .ok (.iinc 7 1, 3) := by decide +kernel
theorem dX4_hoursTaken_67 : decode cX4_hoursTaken 67 = .ok (.goto (-46), 3) := by decide +kernel
theorem dX4_hoursTaken_70 : decode cX4_hoursTaken 70 = .ok (.iload 4, 2) := by decide +kernel
theorem dX4_hoursTaken_72 : decode cX4_hoursTaken 72 = .ok (.ireturn, 1) := by decide +kernel
theorem dX4_firstFreeDay_0 : decode cX4_firstFreeDay 0 = .ok (.aload_n 0, 1) := by decide +kernel
theorem dX4_firstFreeDay_1 : decode cX4_firstFreeDay 1 = .ok (.getfield 45, 3) := by decide +kernel
theorem dX4_firstFreeDay_4 : decode cX4_firstFreeDay 4 = .ok (.istore_n 2, 1) := by decide +kernel
theorem dX4_firstFreeDay_5 : decode cX4_firstFreeDay 5 = .ok (.iload_n 2, 1) := by decide +kernel
theorem dX4_firstFreeDay_6 : decode cX4_firstFreeDay 6 = .ok (.sipush 400, 3) := by decide +kernel
theorem dX4_firstFreeDay_9 : decode cX4_firstFreeDay 9 = .ok (.if_icmp .gt 21, 3) := by decide +kernel
theorem dX4_firstFreeDay_12 : decode cX4_firstFreeDay 12 = .ok (.aload_n 0, 1) := by decide +kernel
theorem dX4_firstFreeDay_13 : decode cX4_firstFreeDay 13 = .ok (.aload_n 1, 1) := by decide +kernel
theorem dX4_firstFreeDay_14 : decode cX4_firstFreeDay 14 = .ok (.iload_n 2, 1) := by decide +kernel
theorem dX4_firstFreeDay_15 : decode cX4_firstFreeDay 15 = .ok (.aconst_null, 1) := by decide +kernel
theorem dX4_firstFreeDay_16 : decode cX4_firstFreeDay 16 = .ok (.invokevirtual 97, 3) := by decide +kernel
theorem dX4_firstFreeDay_19 : decode cX4_firstFreeDay 19 = .ok (.ifCond .ne 5, 3) := by decide +kernel
theorem dX4_firstFreeDay_22 : decode cX4_firstFreeDay 22 = .ok (.iload_n 2, 1) := by decide +kernel
theorem dX4_firstFreeDay_23 : decode cX4_firstFreeDay 23 = .ok (.ireturn, 1) := by decide +kernel
theorem dX4_firstFreeDay_24 : decode cX4_firstFreeDay 24 = .ok (.iinc 2 1, 3) := by decide +kernel
theorem dX4_firstFreeDay_27 : decode cX4_firstFreeDay 27 = .ok (.goto (-22), 3) := by decide +kernel
theorem dX4_firstFreeDay_30 : decode cX4_firstFreeDay 30 = .ok (.iconst (-1), 1) := by decide +kernel
theorem dX4_firstFreeDay_31 : decode cX4_firstFreeDay 31 = .ok (.ireturn, 1) := by decide +kernel
theorem dX4_countingFor_0 : decode cX4_countingFor 0 = .ok (.iconst 0, 1) := by decide +kernel
theorem dX4_countingFor_1 : decode cX4_countingFor 1 = .ok (.istore_n 3, 1) := by decide +kernel
theorem dX4_countingFor_2 : decode cX4_countingFor 2 = .ok (.aload_n 0, 1) := by decide +kernel
theorem dX4_countingFor_3 : decode cX4_countingFor 3 = .ok (.getfield 11, 3) := by decide +kernel
theorem dX4_countingFor_6 : decode cX4_countingFor 6 = .ok (.astore 4, 2) := by decide +kernel
theorem dX4_countingFor_8 : decode cX4_countingFor 8 = .ok (.aload 4, 2) := by decide +kernel
theorem dX4_countingFor_10 : decode cX4_countingFor 10 = .ok (.arraylength, 1) := by decide +kernel
theorem dX4_countingFor_11 : decode cX4_countingFor 11 = .ok (.istore 5, 2) := by decide +kernel
theorem dX4_countingFor_13 : decode cX4_countingFor 13 = .ok (.iconst 0, 1) := by decide +kernel
theorem dX4_countingFor_14 : decode cX4_countingFor 14 = .ok (.istore 6, 2) := by decide +kernel
theorem dX4_countingFor_16 : decode cX4_countingFor 16 = .ok (.iload 6, 2) := by decide +kernel
theorem dX4_countingFor_18 : decode cX4_countingFor 18 = .ok (.iload 5, 2) := by decide +kernel
theorem dX4_countingFor_20 : decode cX4_countingFor 20 = .ok (.if_icmp .ge 34, 3) := by decide +kernel
theorem dX4_countingFor_23 : decode cX4_countingFor 23 = .ok (.aload 4, 2) := by decide +kernel
theorem dX4_countingFor_25 : decode cX4_countingFor 25 = .ok (.iload 6, 2) := by decide +kernel
theorem dX4_countingFor_27 : decode cX4_countingFor 27 = .ok (.aaload, 1) := by decide +kernel
theorem dX4_countingFor_28 : decode cX4_countingFor 28 = .ok (.astore 7, 2) := by decide +kernel
theorem dX4_countingFor_30 : decode cX4_countingFor 30 = .ok (.aload_n 1, 1) := by decide +kernel
theorem dX4_countingFor_31 : decode cX4_countingFor 31 = .ok (.aload 7, 2) := by decide +kernel
theorem dX4_countingFor_33 : decode cX4_countingFor 33 = .ok (.iload_n 2, 1) := by decide +kernel
theorem dX4_countingFor_34 : decode cX4_countingFor 34 = .ok (.invokevirtual 101, 3) := by decide +kernel
theorem dX4_countingFor_37 : decode cX4_countingFor 37 = .ok (.ifCond .eq 11, 3) := by decide +kernel
theorem dX4_countingFor_40 : decode cX4_countingFor 40 = .ok (.iload_n 3, 1) := by decide +kernel
theorem dX4_countingFor_41 : decode cX4_countingFor 41 = .ok (.aload 7, 2) := by decide +kernel
theorem dX4_countingFor_43 : decode cX4_countingFor 43 = .ok (.invokevirtual 105, 3) := by decide +kernel
theorem dX4_countingFor_46 : decode cX4_countingFor 46 = .ok (.ior, 1) := by decide +kernel
theorem dX4_countingFor_47 : decode cX4_countingFor 47 = .ok (.istore_n 3, 1) := by decide +kernel
theorem dX4_countingFor_48 : decode cX4_countingFor 48 = .ok (.iinc 6 1, 3) := by decide +kernel
theorem dX4_countingFor_51 : decode cX4_countingFor 51 = .ok (.goto (-35), 3) := by decide +kernel
theorem dX4_countingFor_54 : decode cX4_countingFor 54 = .ok (.iload_n 3, 1) := by decide +kernel
theorem dX4_countingFor_55 : decode cX4_countingFor 55 = .ok (.ireturn, 1) := by decide +kernel
theorem dX4_lackOf_0 : decode cX4_lackOf 0 = .ok (.aload_n 0, 1) := by decide +kernel
theorem dX4_lackOf_1 : decode cX4_lackOf 1 = .ok (.aload_n 1, 1) := by decide +kernel
theorem dX4_lackOf_2 : decode cX4_lackOf 2 = .ok (.iload_n 2, 1) := by decide +kernel
theorem dX4_lackOf_3 : decode cX4_lackOf 3 = .ok (.invokevirtual 106, 3) := by decide +kernel
theorem dX4_lackOf_6 : decode cX4_lackOf 6 = .ok (.aload_n 1, 1) := by decide +kernel
theorem dX4_lackOf_7 : decode cX4_lackOf 7 = .ok (.getfield 73, 3) := by decide +kernel
theorem dX4_lackOf_10 : decode cX4_lackOf 10 = .ok (.iand, 1) := by decide +kernel
theorem dX4_lackOf_11 : decode cX4_lackOf 11 = .ok (.invokestatic 110, 3) := by decide +kernel
theorem dX4_lackOf_14 : decode cX4_lackOf 14 = .ok (.istore_n 3, 1) := by decide +kernel
theorem dX4_lackOf_15 : decode cX4_lackOf 15 = .ok (.aload_n 1, 1) := by decide +kernel
theorem dX4_lackOf_16 : decode cX4_lackOf 16 = .ok (.iload_n 2, 1) := by decide +kernel
theorem dX4_lackOf_17 : decode cX4_lackOf 17 = .ok (.invokevirtual 115, 3) := by decide +kernel
theorem dX4_lackOf_20 : decode cX4_lackOf 20 = .ok (.iload_n 3, 1) := by decide +kernel
theorem dX4_lackOf_21 : decode cX4_lackOf 21 = .ok (.isub, 1) := by decide +kernel
theorem dX4_lackOf_22 : decode cX4_lackOf 22 = .ok (.iconst 0, 1) := by decide +kernel
theorem dX4_lackOf_23 : decode cX4_lackOf 23 = .ok (.invokestatic 118, 3) := by decide +kernel
theorem dX4_lackOf_26 : decode cX4_lackOf 26 = .ok (.ireturn, 1) := by decide +kernel
theorem dX4_quorumHolds_0 : decode cX4_quorumHolds 0 = .ok (.iconst 0, 1) := by decide +kernel
theorem dX4_quorumHolds_1 : decode cX4_quorumHolds 1 = .ok (.istore_n 3, 1) := by decide +kernel
theorem dX4_quorumHolds_2 : decode cX4_quorumHolds 2 = .ok (.iload_n 3, 1) := by decide +kernel
theorem dX4_quorumHolds_3 : decode cX4_quorumHolds 3 = .ok (.iconst 5, 1) := by decide +kernel
theorem dX4_quorumHolds_4 : decode cX4_quorumHolds 4 = .ok (.if_icmp .ge 30, 3) := by decide +kernel
theorem dX4_quorumHolds_7 : decode cX4_quorumHolds 7 = .ok (.aload_n 0, 1) := by decide +kernel
theorem dX4_quorumHolds_8 : decode cX4_quorumHolds 8 = .ok (.aload_n 1, 1) := by decide +kernel
theorem dX4_quorumHolds_9 : decode cX4_quorumHolds 9 = .ok (.iload_n 3, 1) := by decide +kernel
theorem dX4_quorumHolds_10 : decode cX4_quorumHolds 10 = .ok (.invokevirtual 106, 3) := by decide +kernel
theorem dX4_quorumHolds_13 : decode cX4_quorumHolds 13 = .ok (.iload_n 2, 1) := by decide +kernel
theorem dX4_quorumHolds_14 : decode cX4_quorumHolds 14 = .ok (.iand, 1) := by decide +kernel
theorem dX4_quorumHolds_15 : decode cX4_quorumHolds 15 = .ok (.invokestatic 110, 3) := by decide +kernel
theorem dX4_quorumHolds_18 : decode cX4_quorumHolds 18 = .ok (.aload_n 1, 1) := by decide +kernel
theorem dX4_quorumHolds_19 : decode cX4_quorumHolds 19 = .ok (.iload_n 3, 1) := by decide +kernel
theorem dX4_quorumHolds_20 : decode cX4_quorumHolds 20 = .ok (.invokevirtual 115, 3) := by decide +kernel
theorem dX4_quorumHolds_23 : decode cX4_quorumHolds 23 = .ok (.if_icmp .ge 5, 3) := by decide +kernel
theorem dX4_quorumHolds_26 : decode cX4_quorumHolds 26 = .ok (.iconst 0, 1) := by decide +kernel
theorem dX4_quorumHolds_27 : decode cX4_quorumHolds 27 = .ok (.ireturn, 1) := by decide +kernel
theorem dX4_quorumHolds_28 : decode cX4_quorumHolds 28 = .ok (.iinc 3 1, 3) := by decide +kernel
theorem dX4_quorumHolds_31 : decode cX4_quorumHolds 31 = .ok (.goto (-29), 3) := by decide +kernel
theorem dX4_quorumHolds_34 : decode cX4_quorumHolds 34 = .ok (.iconst 1, 1) := by decide +kernel
theorem dX4_quorumHolds_35 : decode cX4_quorumHolds 35 = .ok (.ireturn, 1) := by decide +kernel
theorem dX4_reasonNotToJoin_0 : decode cX4_reasonNotToJoin 0 = .ok (.aload_n 3, 1) := by decide +kernel
theorem dX4_reasonNotToJoin_1 : decode cX4_reasonNotToJoin 1 = .ok (.iload_n 2, 1) := by decide +kernel
theorem dX4_reasonNotToJoin_2 : decode cX4_reasonNotToJoin 2 = .ok (.invokevirtual 76, 3) := by decide +kernel
theorem dX4_reasonNotToJoin_5 : decode cX4_reasonNotToJoin 5 = .ok (.ifCond .eq 5, 3) := by decide +kernel
theorem dX4_reasonNotToJoin_8 : decode cX4_reasonNotToJoin 8 = .ok (.iconst 1, 1) := by decide +kernel
theorem dX4_reasonNotToJoin_9 : decode cX4_reasonNotToJoin 9 = .ok (.ireturn, 1) := by decide +kernel
theorem dX4_reasonNotToJoin_10 : decode cX4_reasonNotToJoin 10 = .ok (.aload_n 3, 1) := by decide +kernel
theorem dX4_reasonNotToJoin_11 : decode cX4_reasonNotToJoin 11 = .ok (.getfield 87, 3) := by decide +kernel
theorem dX4_reasonNotToJoin_14 : decode cX4_reasonNotToJoin 14 = .ok (.aload_n 1, 1) := by decide +kernel
theorem dX4_reasonNotToJoin_15 : decode cX4_reasonNotToJoin 15 = .ok (.getfield 84, 3) := by decide +kernel
theorem dX4_reasonNotToJoin_18 : decode cX4_reasonNotToJoin 18 = .ok (.if_icmp .ne 12, 3) := by decide +kernel
theorem dX4_reasonNotToJoin_21 : decode cX4_reasonNotToJoin 21 = .ok (.aload_n 1, 1) := by decide +kernel
theorem dX4_reasonNotToJoin_22 : decode cX4_reasonNotToJoin 22 = .ok (.getfield 124, 3) := by decide +kernel
theorem dX4_reasonNotToJoin_25 : decode cX4_reasonNotToJoin 25 = .ok (.ifCond .eq 5, 3) := by decide +kernel
theorem dX4_reasonNotToJoin_28 : decode cX4_reasonNotToJoin 28 = .ok (.iconst 2, 1) := by decide +kernel
theorem dX4_reasonNotToJoin_29 : decode cX4_reasonNotToJoin 29 = .ok (.ireturn, 1) := by decide +kernel
theorem dX4_reasonNotToJoin_30 : decode cX4_reasonNotToJoin 30 = .ok (.aload_n 3, 1) := by decide +kernel
theorem dX4_reasonNotToJoin_31 : decode cX4_reasonNotToJoin 31 = .ok (.getfield 127, 3) := by decide +kernel
theorem dX4_reasonNotToJoin_34 : decode cX4_reasonNotToJoin 34 = .ok (.aload_n 1, 1) := by decide +kernel
theorem dX4_reasonNotToJoin_35 : decode cX4_reasonNotToJoin 35 = .ok (.getfield 84, 3) := by decide +kernel
theorem dX4_reasonNotToJoin_38 : decode cX4_reasonNotToJoin 38 = .ok (.ishr, 1) := by decide +kernel
theorem dX4_reasonNotToJoin_39 : decode cX4_reasonNotToJoin 39 = .ok (.iconst 1, 1) := by decide +kernel
theorem dX4_reasonNotToJoin_40 : decode cX4_reasonNotToJoin 40 = .ok (.iand, 1) := by decide +kernel
theorem dX4_reasonNotToJoin_41 : decode cX4_reasonNotToJoin 41 = .ok (.ifCond .eq 5, 3) := by decide +kernel
theorem dX4_reasonNotToJoin_44 : decode cX4_reasonNotToJoin 44 = .ok (.iconst 3, 1) := by decide +kernel
theorem dX4_reasonNotToJoin_45 : decode cX4_reasonNotToJoin 45 = .ok (.ireturn, 1) := by decide +kernel
theorem dX4_reasonNotToJoin_46 : decode cX4_reasonNotToJoin 46 = .ok (.aload_n 3, 1) := by decide +kernel
theorem dX4_reasonNotToJoin_47 : decode cX4_reasonNotToJoin 47 = .ok (.getfield 127, 3) := by decide +kernel
theorem dX4_reasonNotToJoin_50 : decode cX4_reasonNotToJoin 50 = .ok (.iload_n 2, 1) := by decide +kernel
theorem dX4_reasonNotToJoin_51 : decode cX4_reasonNotToJoin 51 = .ok (.iand, 1) := by decide +kernel
theorem dX4_reasonNotToJoin_52 : decode cX4_reasonNotToJoin 52 = .ok (.ifCond .eq 5, 3) := by decide +kernel
theorem dX4_reasonNotToJoin_55 : decode cX4_reasonNotToJoin 55 = .ok (.iconst 4, 1) := by decide +kernel
theorem dX4_reasonNotToJoin_56 : decode cX4_reasonNotToJoin 56 = .ok (.ireturn, 1) := by decide +kernel
theorem dX4_reasonNotToJoin_57 : decode cX4_reasonNotToJoin 57 = .ok (.aload_n 0, 1) := by decide +kernel
theorem dX4_reasonNotToJoin_58 : decode cX4_reasonNotToJoin 58 = .ok (.aload_n 3, 1) := by decide +kernel
theorem dX4_reasonNotToJoin_59 : decode cX4_reasonNotToJoin 59 = .ok (.aload_n 1, 1) := by decide +kernel
theorem dX4_reasonNotToJoin_60 : decode cX4_reasonNotToJoin 60 = .ok (.invokevirtual 130, 3) := by decide +kernel
theorem dX4_reasonNotToJoin_63 : decode cX4_reasonNotToJoin 63 = .ok (.invokestatic 110, 3) := by decide +kernel
theorem dX4_reasonNotToJoin_66 : decode cX4_reasonNotToJoin 66 = .ok (.aload_n 3, 1) := by decide +kernel
theorem dX4_reasonNotToJoin_67 : decode cX4_reasonNotToJoin 67 = .ok (.getfield 134, 3) := by decide +kernel
theorem dX4_reasonNotToJoin_70 : decode cX4_reasonNotToJoin 70 = .ok (.if_icmp .lt 5, 3) := by decide +kernel
theorem dX4_reasonNotToJoin_73 : decode cX4_reasonNotToJoin 73 = .ok (.iconst 5, 1) := by decide +kernel
theorem dX4_reasonNotToJoin_74 : decode cX4_reasonNotToJoin 74 = .ok (.ireturn, 1) := by decide +kernel
theorem dX4_reasonNotToJoin_75 : decode cX4_reasonNotToJoin 75 = .ok (.iload_n 2, 1) := by decide +kernel
theorem dX4_reasonNotToJoin_76 : decode cX4_reasonNotToJoin 76 = .ok (.invokestatic 110, 3) := by decide +kernel
theorem dX4_reasonNotToJoin_79 : decode cX4_reasonNotToJoin 79 = .ok (.aload_n 1, 1) := by decide +kernel
theorem dX4_reasonNotToJoin_80 : decode cX4_reasonNotToJoin 80 = .ok (.invokevirtual 137, 3) := by decide +kernel
theorem dX4_reasonNotToJoin_83 : decode cX4_reasonNotToJoin 83 = .ok (.if_icmp .lt 6, 3) := by decide +kernel
theorem dX4_reasonNotToJoin_86 : decode cX4_reasonNotToJoin 86 = .ok (.bipush 6, 2) := by decide +kernel
theorem dX4_reasonNotToJoin_88 : decode cX4_reasonNotToJoin 88 = .ok (.ireturn, 1) := by decide +kernel
theorem dX4_reasonNotToJoin_89 : decode cX4_reasonNotToJoin 89 = .ok (.aload_n 1, 1) := by decide +kernel
theorem dX4_reasonNotToJoin_90 : decode cX4_reasonNotToJoin 90 = .ok (.invokevirtual 140, 3) := by decide +kernel
theorem dX4_reasonNotToJoin_93 : decode cX4_reasonNotToJoin 93 = .ok (.ifCond .eq 26, 3) := by decide +kernel
theorem dX4_reasonNotToJoin_96 : decode cX4_reasonNotToJoin 96 = .ok (.aload_n 0, 1) := by decide +kernel
theorem dX4_reasonNotToJoin_97 : decode cX4_reasonNotToJoin 97 = .ok (.aload_n 3, 1) := by decide +kernel
theorem dX4_reasonNotToJoin_98 : decode cX4_reasonNotToJoin 98 = .ok (.aload_n 1, 1) := by decide +kernel
theorem dX4_reasonNotToJoin_99 : decode cX4_reasonNotToJoin 99 = .ok (.getfield 143, 3) := by decide +kernel
theorem dX4_reasonNotToJoin_102 : decode cX4_reasonNotToJoin 102 = .ok (.aload_n 1, 1) := by decide +kernel
theorem dX4_reasonNotToJoin_103 : decode cX4_reasonNotToJoin 103 = .ok (.invokevirtual 97, 3) := by decide +kernel
theorem dX4_reasonNotToJoin_106 : decode cX4_reasonNotToJoin 106 = .ok (.iconst 3, 1) := by decide +kernel
theorem dX4_reasonNotToJoin_107 : decode cX4_reasonNotToJoin 107 = .ok (.aload_n 1, 1) := by decide +kernel
theorem dX4_reasonNotToJoin_108 : decode cX4_reasonNotToJoin 108 = .ok (.getfield 146, 3) := by decide +kernel
theorem dX4_reasonNotToJoin_111 : decode cX4_reasonNotToJoin 111 = .ok (.ishl, 1) := by decide +kernel
theorem dX4_reasonNotToJoin_112 : decode cX4_reasonNotToJoin 112 = .ok (.iand, 1) := by decide +kernel
theorem dX4_reasonNotToJoin_113 : decode cX4_reasonNotToJoin 113 = .ok (.ifCond .eq 6, 3) := by decide +kernel
theorem dX4_reasonNotToJoin_116 : decode cX4_reasonNotToJoin 116 = .ok (.bipush 7, 2) := by decide +kernel
theorem dX4_reasonNotToJoin_118 : decode cX4_reasonNotToJoin 118 = .ok (.ireturn, 1) := by decide +kernel
theorem dX4_reasonNotToJoin_119 : decode cX4_reasonNotToJoin 119 = .ok (.aload_n 1, 1) := by decide +kernel
theorem dX4_reasonNotToJoin_120 : decode cX4_reasonNotToJoin 120 = .ok (.invokevirtual 69, 3) := by decide +kernel
theorem dX4_reasonNotToJoin_123 : decode cX4_reasonNotToJoin 123 = .ok (.ifCond .eq 8, 3) := by decide +kernel
theorem dX4_reasonNotToJoin_126 : decode cX4_reasonNotToJoin 126 = .ok (.bipush 8, 2) := by decide +kernel
theorem dX4_reasonNotToJoin_128 : decode cX4_reasonNotToJoin 128 = .ok (.goto 4, 3) := by decide +kernel
theorem dX4_reasonNotToJoin_131 : decode cX4_reasonNotToJoin 131 = .ok (.iconst 0, 1) := by decide +kernel
theorem dX4_reasonNotToJoin_132 : decode cX4_reasonNotToJoin 132 = .ok (.ireturn, 1) := by decide +kernel
theorem dX4_possibleJoiners_0 : decode cX4_possibleJoiners 0 = .ok (.iconst 0, 1) := by decide +kernel
theorem dX4_possibleJoiners_1 : decode cX4_possibleJoiners 1 = .ok (.istore_n 3, 1) := by decide +kernel
theorem dX4_possibleJoiners_2 : decode cX4_possibleJoiners 2 = .ok (.iconst 0, 1) := by decide +kernel
theorem dX4_possibleJoiners_3 : decode cX4_possibleJoiners 3 = .ok (.istore 4, 2) := by decide +kernel
theorem dX4_possibleJoiners_5 : decode cX4_possibleJoiners 5 = .ok (.iload 4, 2) := by decide +kernel
theorem dX4_possibleJoiners_7 : decode cX4_possibleJoiners 7 = .ok (.aload_n 0, 1) := by decide +kernel
theorem dX4_possibleJoiners_8 : decode cX4_possibleJoiners 8 = .ok (.getfield 35, 3) := by decide +kernel
theorem dX4_possibleJoiners_11 : decode cX4_possibleJoiners 11 = .ok (.if_icmp .ge 38, 3) := by decide +kernel
theorem dX4_possibleJoiners_14 : decode cX4_possibleJoiners 14 = .ok (.aload_n 0, 1) := by decide +kernel
theorem dX4_possibleJoiners_15 : decode cX4_possibleJoiners 15 = .ok (.aload_n 1, 1) := by decide +kernel
theorem dX4_possibleJoiners_16 : decode cX4_possibleJoiners 16 = .ok (.iload_n 2, 1) := by decide +kernel
theorem dX4_possibleJoiners_17 : decode cX4_possibleJoiners 17 = .ok (.aload_n 0, 1) := by decide +kernel
theorem dX4_possibleJoiners_18 : decode cX4_possibleJoiners 18 = .ok (.getfield 11, 3) := by decide +kernel
theorem dX4_possibleJoiners_21 : decode cX4_possibleJoiners 21 = .ok (.iload 4, 2) := by decide +kernel
theorem dX4_possibleJoiners_23 : decode cX4_possibleJoiners 23 = .ok (.aaload, 1) := by decide +kernel
theorem dX4_possibleJoiners_24 : decode cX4_possibleJoiners 24 = .ok (.invokevirtual 149, 3) := by decide +kernel
theorem dX4_possibleJoiners_27 : decode cX4_possibleJoiners 27 = .ok (.ifCond .ne 16, 3) := by decide +kernel
theorem dX4_possibleJoiners_30 : decode cX4_possibleJoiners 30 = .ok (.iload_n 3, 1) := by decide +kernel
theorem dX4_possibleJoiners_31 : decode cX4_possibleJoiners 31 = .ok (.aload_n 0, 1) := by decide +kernel
theorem dX4_possibleJoiners_32 : decode cX4_possibleJoiners 32 = .ok (.getfield 11, 3) := by decide +kernel
theorem dX4_possibleJoiners_35 : decode cX4_possibleJoiners 35 = .ok (.iload 4, 2) := by decide +kernel
theorem dX4_possibleJoiners_37 : decode cX4_possibleJoiners 37 = .ok (.aaload, 1) := by decide +kernel
theorem dX4_possibleJoiners_38 : decode cX4_possibleJoiners 38 = .ok (.invokevirtual 105, 3) := by decide +kernel
theorem dX4_possibleJoiners_41 : decode cX4_possibleJoiners 41 = .ok (.ior, 1) := by decide +kernel
theorem dX4_possibleJoiners_42 : decode cX4_possibleJoiners 42 = .ok (.istore_n 3, 1) := by decide +kernel
theorem dX4_possibleJoiners_43 : decode cX4_possibleJoiners 43 = .ok (.iinc 4 1, 3) := by decide +kernel
theorem dX4_possibleJoiners_46 : decode cX4_possibleJoiners 46 = .ok (.goto (-41), 3) := by decide +kernel
theorem dX4_possibleJoiners_49 : decode cX4_possibleJoiners 49 = .ok (.iload_n 3, 1) := by decide +kernel
theorem dX4_possibleJoiners_50 : decode cX4_possibleJoiners 50 = .ok (.ireturn, 1) := by decide +kernel
theorem dX4_canLeave_0 : decode cX4_canLeave 0 = .ok (.aload_n 2, 1) := by decide +kernel
theorem dX4_canLeave_1 : decode cX4_canLeave 1 = .ok (.aload_n 1, 1) := by decide +kernel
theorem dX4_canLeave_2 : decode cX4_canLeave 2 = .ok (.getfield 73, 3) := by decide +kernel
theorem dX4_canLeave_5 : decode cX4_canLeave 5 = .ok (.invokevirtual 76, 3) := by decide +kernel
theorem dX4_canLeave_8 : decode cX4_canLeave 8 = .ok (.ifCond .eq 14, 3) := by decide +kernel
theorem dX4_canLeave_11 : decode cX4_canLeave 11 = .ok (.aload_n 1, 1) := by decide +kernel
theorem dX4_canLeave_12 : decode cX4_canLeave 12 = .ok (.invokevirtual 69, 3) := by decide +kernel
theorem dX4_canLeave_15 : decode cX4_canLeave 15 = .ok (.ifCond .ne 7, 3) := by decide +kernel
theorem dX4_canLeave_18 : decode cX4_canLeave 18 = .ok (.iconst 1, 1) := by decide +kernel
theorem dX4_canLeave_19 : decode cX4_canLeave 19 = .ok (.goto 4, 3) := by decide +kernel
theorem dX4_canLeave_22 : decode cX4_canLeave 22 = .ok (.iconst 0, 1) := by decide +kernel
theorem dX4_canLeave_23 : decode cX4_canLeave 23 = .ok (.ireturn, 1) := by decide +kernel
theorem dX4_keepPlaceByQuorum_0 : decode cX4_keepPlaceByQuorum 0 = .ok (.aload_n 0, 1) := by decide +kernel
theorem dX4_keepPlaceByQuorum_1 : decode cX4_keepPlaceByQuorum 1 = .ok (.aload_n 1, 1) := by decide +kernel
theorem dX4_keepPlaceByQuorum_2 : decode cX4_keepPlaceByQuorum 2 = .ok (.aload_n 1, 1) := by decide +kernel
theorem dX4_keepPlaceByQuorum_3 : decode cX4_keepPlaceByQuorum 3 = .ok (.getfield 73, 3) := by decide +kernel
theorem dX4_keepPlaceByQuorum_6 : decode cX4_keepPlaceByQuorum 6 = .ok (.invokevirtual 153, 3) := by decide +kernel
theorem dX4_keepPlaceByQuorum_9 : decode cX4_keepPlaceByQuorum 9 = .ok (.istore_n 2, 1) := by decide +kernel
theorem dX4_keepPlaceByQuorum_10 : decode cX4_keepPlaceByQuorum 10 = .ok (.iload_n 2, 1) := by decide +kernel
theorem dX4_keepPlaceByQuorum_11 : decode cX4_keepPlaceByQuorum 11 = .ok (.ifCond .ne 7, 3) := by decide +kernel
theorem dX4_keepPlaceByQuorum_14 : decode cX4_keepPlaceByQuorum 14 = .ok (.aload_n 1, 1) := by decide +kernel
theorem dX4_keepPlaceByQuorum_15 : decode cX4_keepPlaceByQuorum 15 = .ok (.invokevirtual 157, 3) := by decide +kernel
theorem dX4_keepPlaceByQuorum_18 : decode cX4_keepPlaceByQuorum 18 = .ok (.iload_n 2, 1) := by decide +kernel
theorem dX4_keepPlaceByQuorum_19 : decode cX4_keepPlaceByQuorum 19 = .ok (.ireturn, 1) := by decide +kernel
theorem dX4_replacementsFor_0 : decode cX4_replacementsFor 0 = .ok (.aload_n 1, 1) := by decide +kernel
theorem dX4_replacementsFor_1 : decode cX4_replacementsFor 1 = .ok (.getfield 73, 3) := by decide +kernel
theorem dX4_replacementsFor_4 : decode cX4_replacementsFor 4 = .ok (.aload_n 2, 1) := by decide +kernel
theorem dX4_replacementsFor_5 : decode cX4_replacementsFor 5 = .ok (.invokevirtual 105, 3) := by decide +kernel
theorem dX4_replacementsFor_8 : decode cX4_replacementsFor 8 = .ok (.iconst (-1), 1) := by decide +kernel
theorem dX4_replacementsFor_9 : decode cX4_replacementsFor 9 = .ok (.ixor, 1) := by decide +kernel
theorem dX4_replacementsFor_10 : decode cX4_replacementsFor 10 = .ok (.iand, 1) := by decide +kernel
theorem dX4_replacementsFor_11 : decode cX4_replacementsFor 11 = .ok (.istore_n 3, 1) := by decide +kernel
theorem dX4_replacementsFor_12 : decode cX4_replacementsFor 12 = .ok (.aload_n 0, 1) := by decide +kernel
theorem dX4_replacementsFor_13 : decode cX4_replacementsFor 13 = .ok (.aload_n 1, 1) := by decide +kernel
theorem dX4_replacementsFor_14 : decode cX4_replacementsFor 14 = .ok (.iload_n 3, 1) := by decide +kernel
theorem dX4_replacementsFor_15 : decode cX4_replacementsFor 15 = .ok (.invokevirtual 160, 3) := by decide +kernel
theorem dX4_replacementsFor_18 : decode cX4_replacementsFor 18 = .ok (.aload_n 2, 1) := by decide +kernel
theorem dX4_replacementsFor_19 : decode cX4_replacementsFor 19 = .ok (.invokevirtual 105, 3) := by decide +kernel
theorem dX4_replacementsFor_22 : decode cX4_replacementsFor 22 = .ok (.iconst (-1), 1) := by decide +kernel
theorem dX4_replacementsFor_23 : decode cX4_replacementsFor 23 = .ok (.ixor, 1) := by decide +kernel
theorem dX4_replacementsFor_24 : decode cX4_replacementsFor 24 = .ok (.iand, 1) := by decide +kernel
theorem dX4_replacementsFor_25 : decode cX4_replacementsFor 25 = .ok (.istore 4, 2) := by decide +kernel
theorem dX4_replacementsFor_27 : decode cX4_replacementsFor 27 = .ok (.iconst 0, 1) := by decide +kernel
theorem dX4_replacementsFor_28 : decode cX4_replacementsFor 28 = .ok (.istore 5, 2) := by decide +kernel
theorem dX4_replacementsFor_30 : decode cX4_replacementsFor 30 = .ok (.aload_n 0, 1) := by decide +kernel
theorem dX4_replacementsFor_31 : decode cX4_replacementsFor 31 = .ok (.getfield 11, 3) := by decide +kernel
theorem dX4_replacementsFor_34 : decode cX4_replacementsFor 34 = .ok (.astore 6, 2) := by decide +kernel
theorem dX4_replacementsFor_36 : decode cX4_replacementsFor 36 = .ok (.aload 6, 2) := by decide +kernel
theorem dX4_replacementsFor_38 : decode cX4_replacementsFor 38 = .ok (.arraylength, 1) := by decide +kernel
theorem dX4_replacementsFor_39 : decode cX4_replacementsFor 39 = .ok (.istore 7, 2) := by decide +kernel
theorem dX4_replacementsFor_41 : decode cX4_replacementsFor 41 = .ok (.iconst 0, 1) := by decide +kernel
theorem dX4_replacementsFor_42 : decode cX4_replacementsFor 42 = .ok (.istore 8, 2) := by decide +kernel
theorem dX4_replacementsFor_44 : decode cX4_replacementsFor 44 = .ok (.iload 8, 2) := by decide +kernel
theorem dX4_replacementsFor_46 : decode cX4_replacementsFor 46 = .ok (.iload 7, 2) := by decide +kernel
theorem dX4_replacementsFor_48 : decode cX4_replacementsFor 48 = .ok (.if_icmp .ge 51, 3) := by decide +kernel
theorem dX4_replacementsFor_51 : decode cX4_replacementsFor 51 = .ok (.aload 6, 2) := by decide +kernel
theorem dX4_replacementsFor_53 : decode cX4_replacementsFor 53 = .ok (.iload 8, 2) := by decide +kernel
theorem dX4_replacementsFor_55 : decode cX4_replacementsFor 55 = .ok (.aaload, 1) := by decide +kernel
theorem dX4_replacementsFor_56 : decode cX4_replacementsFor 56 = .ok (.astore 9, 2) := by decide +kernel
theorem dX4_replacementsFor_58 : decode cX4_replacementsFor 58 = .ok (.aload 9, 2) := by decide +kernel
theorem dX4_replacementsFor_60 : decode cX4_replacementsFor 60 = .ok (.iload 4, 2) := by decide +kernel
theorem dX4_replacementsFor_62 : decode cX4_replacementsFor 62 = .ok (.invokevirtual 76, 3) := by decide +kernel
theorem dX4_replacementsFor_65 : decode cX4_replacementsFor 65 = .ok (.ifCond .eq 28, 3) := by decide +kernel
theorem dX4_replacementsFor_68 : decode cX4_replacementsFor 68 = .ok (.aload_n 0, 1) := by decide +kernel
theorem dX4_replacementsFor_69 : decode cX4_replacementsFor 69 = .ok (.aload_n 1, 1) := by decide +kernel
theorem dX4_replacementsFor_70 : decode cX4_replacementsFor 70 = .ok (.iload_n 3, 1) := by decide +kernel
theorem dX4_replacementsFor_71 : decode cX4_replacementsFor 71 = .ok (.aload 9, 2) := by decide +kernel
theorem dX4_replacementsFor_73 : decode cX4_replacementsFor 73 = .ok (.invokevirtual 105, 3) := by decide +kernel
theorem dX4_replacementsFor_76 : decode cX4_replacementsFor 76 = .ok (.ior, 1) := by decide +kernel
theorem dX4_replacementsFor_77 : decode cX4_replacementsFor 77 = .ok (.invokevirtual 153, 3) := by decide +kernel
theorem dX4_replacementsFor_80 : decode cX4_replacementsFor 80 = .ok (.ifCond .eq 13, 3) := by decide +kernel
theorem dX4_replacementsFor_83 : decode cX4_replacementsFor 83 = .ok (.iload 5, 2) := by decide +kernel
theorem dX4_replacementsFor_85 : decode cX4_replacementsFor 85 = .ok (.aload 9, 2) := by decide +kernel
theorem dX4_replacementsFor_87 : decode cX4_replacementsFor 87 = .ok (.invokevirtual 105, 3) := by decide +kernel
theorem dX4_replacementsFor_90 : decode cX4_replacementsFor 90 = .ok (.ior, 1) := by decide +kernel
theorem dX4_replacementsFor_91 : decode cX4_replacementsFor 91 = .ok (.istore 5, 2) := by decide +kernel
theorem dX4_replacementsFor_93 : decode cX4_replacementsFor 93 = .ok (.iinc 8 1, 3) := by decide +kernel
theorem dX4_replacementsFor_96 : decode cX4_replacementsFor 96 = .ok (.goto (-52), 3) := by decide +kernel
theorem dX4_replacementsFor_99 : decode cX4_replacementsFor 99 = .ok (.iload 5, 2) := by decide +kernel
theorem dX4_replacementsFor_101 : decode cX4_replacementsFor 101 = .ok (.ireturn, 1) := by decide +kernel
theorem dX4_hoursInRoom_0 : decode cX4_hoursInRoom 0 = .ok (.iconst 0, 1) := by decide +kernel
theorem dX4_hoursInRoom_1 : decode cX4_hoursInRoom 1 = .ok (.istore 4, 2) := by decide +kernel
theorem dX4_hoursInRoom_3 : decode cX4_hoursInRoom 3 = .ok (.aload_n 0, 1) := by decide +kernel
theorem dX4_hoursInRoom_4 : decode cX4_hoursInRoom 4 = .ok (.getfield 22, 3) := by decide +kernel
theorem dX4_hoursInRoom_7 : decode cX4_hoursInRoom 7 = .ok (.astore 5, 2) := by decide +kernel
theorem dX4_hoursInRoom_9 : decode cX4_hoursInRoom 9 = .ok (.aload 5, 2) := by decide +kernel
theorem dX4_hoursInRoom_11 : decode cX4_hoursInRoom 11 = .ok (.arraylength, 1) := by decide +kernel
theorem dX4_hoursInRoom_12 : decode cX4_hoursInRoom 12 = .ok (.istore 6, 2) := by decide +kernel
theorem dX4_hoursInRoom_14 : decode cX4_hoursInRoom 14 = .ok (.iconst 0, 1) := by decide +kernel
theorem dX4_hoursInRoom_15 : decode cX4_hoursInRoom 15 = .ok (.istore 7, 2) := by decide +kernel
theorem dX4_hoursInRoom_17 : decode cX4_hoursInRoom 17 = .ok (.iload 7, 2) := by decide +kernel
theorem dX4_hoursInRoom_19 : decode cX4_hoursInRoom 19 = .ok (.iload 6, 2) := by decide +kernel
theorem dX4_hoursInRoom_21 : decode cX4_hoursInRoom 21 = .ok (.if_icmp .ge 42, 3) := by decide +kernel
theorem dX4_hoursInRoom_24 : decode cX4_hoursInRoom 24 = .ok (.aload 5, 2) := by decide +kernel
theorem dX4_hoursInRoom_26 : decode cX4_hoursInRoom 26 = .ok (.iload 7, 2) := by decide +kernel
theorem dX4_hoursInRoom_28 : decode cX4_hoursInRoom 28 = .ok (.aaload, 1) := by decide +kernel
theorem dX4_hoursInRoom_29 : decode cX4_hoursInRoom 29 = .ok (.astore 8, 2) := by decide +kernel
theorem dX4_hoursInRoom_31 : decode cX4_hoursInRoom 31 = .ok (.aload 8, 2) := by decide +kernel
theorem dX4_hoursInRoom_33 : decode cX4_hoursInRoom 33 = .ok (.aload_n 3, 1) := by decide +kernel
theorem dX4_hoursInRoom_34 : decode cX4_hoursInRoom 34 = .ok (.if_acmp .eq 23, 3) := by decide +kernel
theorem dX4_hoursInRoom_37 : decode cX4_hoursInRoom 37 = .ok (.aload 8, 2) := by decide +kernel
theorem dX4_hoursInRoom_39 : decode cX4_hoursInRoom 39 = .ok (.getfield 163, 3) := by decide +kernel
theorem dX4_hoursInRoom_42 : decode cX4_hoursInRoom 42 = .ok (.iload_n 1, 1) := by decide +kernel
theorem dX4_hoursInRoom_43 : decode cX4_hoursInRoom 43 = .ok (.if_icmp .ne 14, 3) := by decide +kernel
theorem dX4_hoursInRoom_46 : decode cX4_hoursInRoom 46 = .ok (.iload 4, 2) := by decide +kernel
theorem dX4_hoursInRoom_48 : decode cX4_hoursInRoom 48 = .ok (.aload 8, 2) := by decide +kernel
theorem dX4_hoursInRoom_50 : decode cX4_hoursInRoom 50 = .ok (.iload_n 2, 1) := by decide +kernel
theorem dX4_hoursInRoom_51 : decode cX4_hoursInRoom 51 = .ok (.invokevirtual 94, 3) := by decide +kernel
theorem dX4_hoursInRoom_54 : decode cX4_hoursInRoom 54 = .ok (.ior, 1) := by decide +kernel
theorem dX4_hoursInRoom_55 : decode cX4_hoursInRoom 55 = .ok (.istore 4, 2) := by decide +kernel
theorem dX4_hoursInRoom_57 : decode cX4_hoursInRoom 57 = .ok (.iinc 7 1, 3) := by decide +kernel
theorem dX4_hoursInRoom_60 : decode cX4_hoursInRoom 60 = .ok (.goto (-43), 3) := by decide +kernel
theorem dX4_hoursInRoom_63 : decode cX4_hoursInRoom 63 = .ok (.iload 4, 2) := by decide +kernel
theorem dX4_hoursInRoom_65 : decode cX4_hoursInRoom 65 = .ok (.ireturn, 1) := by decide +kernel
theorem dX4_hoursOfMembers_0 : decode cX4_hoursOfMembers 0 = .ok (.iconst 0, 1) := by decide +kernel
theorem dX4_hoursOfMembers_1 : decode cX4_hoursOfMembers 1 = .ok (.istore_n 3, 1) := by decide +kernel
theorem dX4_hoursOfMembers_2 : decode cX4_hoursOfMembers 2 = .ok (.aload_n 0, 1) := by decide +kernel
theorem dX4_hoursOfMembers_3 : decode cX4_hoursOfMembers 3 = .ok (.getfield 11, 3) := by decide +kernel
theorem dX4_hoursOfMembers_6 : decode cX4_hoursOfMembers 6 = .ok (.astore 4, 2) := by decide +kernel
theorem dX4_hoursOfMembers_8 : decode cX4_hoursOfMembers 8 = .ok (.aload 4, 2) := by decide +kernel
theorem dX4_hoursOfMembers_10 : decode cX4_hoursOfMembers 10 = .ok (.arraylength, 1) := by decide +kernel
theorem dX4_hoursOfMembers_11 : decode cX4_hoursOfMembers 11 = .ok (.istore 5, 2) := by decide +kernel
theorem dX4_hoursOfMembers_13 : decode cX4_hoursOfMembers 13 = .ok (.iconst 0, 1) := by decide +kernel
theorem dX4_hoursOfMembers_14 : decode cX4_hoursOfMembers 14 = .ok (.istore 6, 2) := by decide +kernel
theorem dX4_hoursOfMembers_16 : decode cX4_hoursOfMembers 16 = .ok (.iload 6, 2) := by decide +kernel
theorem dX4_hoursOfMembers_18 : decode cX4_hoursOfMembers 18 = .ok (.iload 5, 2) := by decide +kernel
theorem dX4_hoursOfMembers_20 : decode cX4_hoursOfMembers 20 = .ok (.if_icmp .ge 39, 3) := by decide +kernel
theorem dX4_hoursOfMembers_23 : decode cX4_hoursOfMembers 23 = .ok (.aload 4, 2) := by decide +kernel
theorem dX4_hoursOfMembers_25 : decode cX4_hoursOfMembers 25 = .ok (.iload 6, 2) := by decide +kernel
theorem dX4_hoursOfMembers_27 : decode cX4_hoursOfMembers 27 = .ok (.aaload, 1) := by decide +kernel
theorem dX4_hoursOfMembers_28 : decode cX4_hoursOfMembers 28 = .ok (.astore 7, 2) := by decide +kernel
theorem dX4_hoursOfMembers_30 : decode cX4_hoursOfMembers 30 = .ok (.aload 7, 2) := by decide +kernel
theorem dX4_hoursOfMembers_32 : decode cX4_hoursOfMembers 32 = .ok (.aload_n 1, 1) := by decide +kernel
theorem dX4_hoursOfMembers_33 : decode cX4_hoursOfMembers 33 = .ok (.getfield 73, 3) := by decide +kernel
theorem dX4_hoursOfMembers_36 : decode cX4_hoursOfMembers 36 = .ok (.invokevirtual 76, 3) := by decide +kernel
theorem dX4_hoursOfMembers_39 : decode cX4_hoursOfMembers 39 = .ok (.ifCond .eq 14, 3) := by decide +kernel
theorem dX4_hoursOfMembers_42 : decode cX4_hoursOfMembers 42 = .ok (.iload_n 3, 1) := by decide +kernel
theorem dX4_hoursOfMembers_43 : decode cX4_hoursOfMembers 43 = .ok (.aload_n 0, 1) := by decide +kernel
theorem dX4_hoursOfMembers_44 : decode cX4_hoursOfMembers 44 = .ok (.aload 7, 2) := by decide +kernel
theorem dX4_hoursOfMembers_46 : decode cX4_hoursOfMembers 46 = .ok (.iload_n 2, 1) := by decide +kernel
theorem dX4_hoursOfMembers_47 : decode cX4_hoursOfMembers 47 = .ok (.aload_n 1, 1) := by decide +kernel
theorem dX4_hoursOfMembers_48 : decode cX4_hoursOfMembers 48 = .ok (.invokevirtual 97, 3) := by decide +kernel
theorem dX4_hoursOfMembers_51 : decode cX4_hoursOfMembers 51 = .ok (.ior, 1) := by decide +kernel
theorem dX4_hoursOfMembers_52 : decode cX4_hoursOfMembers 52 = .ok (.istore_n 3, 1) := by decide +kernel
theorem dX4_hoursOfMembers_53 : decode cX4_hoursOfMembers 53 = .ok (.iinc 6 1, 3) := by decide +kernel
theorem dX4_hoursOfMembers_56 : decode cX4_hoursOfMembers 56 = .ok (.goto (-40), 3) := by decide +kernel
theorem dX4_hoursOfMembers_59 : decode cX4_hoursOfMembers 59 = .ok (.iload_n 3, 1) := by decide +kernel
theorem dX4_hoursOfMembers_60 : decode cX4_hoursOfMembers 60 = .ok (.ireturn, 1) := by decide +kernel
theorem dX4_reasonNotToPlace_0 : decode cX4_reasonNotToPlace 0 = .ok (.aload_n 1, 1) := by decide +kernel
theorem dX4_reasonNotToPlace_1 : decode cX4_reasonNotToPlace 1 = .ok (.invokevirtual 69, 3) := by decide +kernel
theorem dX4_reasonNotToPlace_4 : decode cX4_reasonNotToPlace 4 = .ok (.ifCond .eq 6, 3) := by decide +kernel
theorem dX4_reasonNotToPlace_7 : decode cX4_reasonNotToPlace 7 = .ok (.bipush 8, 2) := by decide +kernel
theorem dX4_reasonNotToPlace_9 : decode cX4_reasonNotToPlace 9 = .ok (.ireturn, 1) := by decide +kernel
theorem dX4_reasonNotToPlace_10 : decode cX4_reasonNotToPlace 10 = .ok (.aload_n 0, 1) := by decide +kernel
theorem dX4_reasonNotToPlace_11 : decode cX4_reasonNotToPlace 11 = .ok (.aload_n 1, 1) := by decide +kernel
theorem dX4_reasonNotToPlace_12 : decode cX4_reasonNotToPlace 12 = .ok (.aload_n 1, 1) := by decide +kernel
theorem dX4_reasonNotToPlace_13 : decode cX4_reasonNotToPlace 13 = .ok (.getfield 73, 3) := by decide +kernel
theorem dX4_reasonNotToPlace_16 : decode cX4_reasonNotToPlace 16 = .ok (.invokevirtual 153, 3) := by decide +kernel
theorem dX4_reasonNotToPlace_19 : decode cX4_reasonNotToPlace 19 = .ok (.ifCond .ne 6, 3) := by decide +kernel
theorem dX4_reasonNotToPlace_22 : decode cX4_reasonNotToPlace 22 = .ok (.bipush 9, 2) := by decide +kernel
theorem dX4_reasonNotToPlace_24 : decode cX4_reasonNotToPlace 24 = .ok (.ireturn, 1) := by decide +kernel
theorem dX4_reasonNotToPlace_25 : decode cX4_reasonNotToPlace 25 = .ok (.aload_n 0, 1) := by decide +kernel
theorem dX4_reasonNotToPlace_26 : decode cX4_reasonNotToPlace 26 = .ok (.iload_n 2, 1) := by decide +kernel
theorem dX4_reasonNotToPlace_27 : decode cX4_reasonNotToPlace 27 = .ok (.iload_n 3, 1) := by decide +kernel
theorem dX4_reasonNotToPlace_28 : decode cX4_reasonNotToPlace 28 = .ok (.aload_n 1, 1) := by decide +kernel
theorem dX4_reasonNotToPlace_29 : decode cX4_reasonNotToPlace 29 = .ok (.invokevirtual 166, 3) := by decide +kernel
theorem dX4_reasonNotToPlace_32 : decode cX4_reasonNotToPlace 32 = .ok (.iconst 3, 1) := by decide +kernel
theorem dX4_reasonNotToPlace_33 : decode cX4_reasonNotToPlace 33 = .ok (.iload 4, 2) := by decide +kernel
theorem dX4_reasonNotToPlace_35 : decode cX4_reasonNotToPlace 35 = .ok (.ishl, 1) := by decide +kernel
theorem dX4_reasonNotToPlace_36 : decode cX4_reasonNotToPlace 36 = .ok (.iand, 1) := by decide +kernel
theorem dX4_reasonNotToPlace_37 : decode cX4_reasonNotToPlace 37 = .ok (.ifCond .eq 6, 3) := by decide +kernel
theorem dX4_reasonNotToPlace_40 : decode cX4_reasonNotToPlace 40 = .ok (.bipush 10, 2) := by decide +kernel
theorem dX4_reasonNotToPlace_42 : decode cX4_reasonNotToPlace 42 = .ok (.ireturn, 1) := by decide +kernel
theorem dX4_reasonNotToPlace_43 : decode cX4_reasonNotToPlace 43 = .ok (.aload_n 0, 1) := by decide +kernel
theorem dX4_reasonNotToPlace_44 : decode cX4_reasonNotToPlace 44 = .ok (.aload_n 1, 1) := by decide +kernel
theorem dX4_reasonNotToPlace_45 : decode cX4_reasonNotToPlace 45 = .ok (.iload_n 3, 1) := by decide +kernel
theorem dX4_reasonNotToPlace_46 : decode cX4_reasonNotToPlace 46 = .ok (.invokevirtual 170, 3) := by decide +kernel
theorem dX4_reasonNotToPlace_49 : decode cX4_reasonNotToPlace 49 = .ok (.iconst 3, 1) := by decide +kernel
theorem dX4_reasonNotToPlace_50 : decode cX4_reasonNotToPlace 50 = .ok (.iload 4, 2) := by decide +kernel
theorem dX4_reasonNotToPlace_52 : decode cX4_reasonNotToPlace 52 = .ok (.ishl, 1) := by decide +kernel
theorem dX4_reasonNotToPlace_53 : decode cX4_reasonNotToPlace 53 = .ok (.iand, 1) := by decide +kernel
theorem dX4_reasonNotToPlace_54 : decode cX4_reasonNotToPlace 54 = .ok (.ifCond .eq 6, 3) := by decide +kernel
theorem dX4_reasonNotToPlace_57 : decode cX4_reasonNotToPlace 57 = .ok (.bipush 11, 2) := by decide +kernel
theorem dX4_reasonNotToPlace_59 : decode cX4_reasonNotToPlace 59 = .ok (.ireturn, 1) := by decide +kernel
theorem dX4_reasonNotToPlace_60 : decode cX4_reasonNotToPlace 60 = .ok (.iload_n 3, 1) := by decide +kernel
theorem dX4_reasonNotToPlace_61 : decode cX4_reasonNotToPlace 61 = .ok (.aload_n 0, 1) := by decide +kernel
theorem dX4_reasonNotToPlace_62 : decode cX4_reasonNotToPlace 62 = .ok (.aload_n 1, 1) := by decide +kernel
theorem dX4_reasonNotToPlace_63 : decode cX4_reasonNotToPlace 63 = .ok (.invokevirtual 173, 3) := by decide +kernel
theorem dX4_reasonNotToPlace_66 : decode cX4_reasonNotToPlace 66 = .ok (.if_icmp .ge 8, 3) := by decide +kernel
theorem dX4_reasonNotToPlace_69 : decode cX4_reasonNotToPlace 69 = .ok (.bipush 12, 2) := by decide +kernel
theorem dX4_reasonNotToPlace_71 : decode cX4_reasonNotToPlace 71 = .ok (.goto 4, 3) := by decide +kernel
theorem dX4_reasonNotToPlace_74 : decode cX4_reasonNotToPlace 74 = .ok (.iconst 0, 1) := by decide +kernel
theorem dX4_reasonNotToPlace_75 : decode cX4_reasonNotToPlace 75 = .ok (.ireturn, 1) := by decide +kernel
theorem dX4_firstDayFor_0 : decode cX4_firstDayFor 0 = .ok (.aload_n 0, 1) := by decide +kernel
theorem dX4_firstDayFor_1 : decode cX4_firstDayFor 1 = .ok (.getfield 45, 3) := by decide +kernel
theorem dX4_firstDayFor_4 : decode cX4_firstDayFor 4 = .ok (.aload_n 1, 1) := by decide +kernel
theorem dX4_firstDayFor_5 : decode cX4_firstDayFor 5 = .ok (.aload_n 1, 1) := by decide +kernel
theorem dX4_firstDayFor_6 : decode cX4_firstDayFor 6 = .ok (.getfield 177, 3) := by decide +kernel
theorem dX4_firstDayFor_9 : decode cX4_firstDayFor 9 = .ok (.iconst 1, 1) := by decide +kernel
theorem dX4_firstDayFor_10 : decode cX4_firstDayFor 10 = .ok (.iadd, 1) := by decide +kernel
theorem dX4_firstDayFor_11 : decode cX4_firstDayFor 11 = .ok (.invokevirtual 180, 3) := by decide +kernel
theorem dX4_firstDayFor_14 : decode cX4_firstDayFor 14 = .ok (.iadd, 1) := by decide +kernel
theorem dX4_firstDayFor_15 : decode cX4_firstDayFor 15 = .ok (.ireturn, 1) := by decide +kernel
theorem dX4_earliestTime_0 : decode cX4_earliestTime 0 = .ok (.aload_n 1, 1) := by decide +kernel
theorem dX4_earliestTime_1 : decode cX4_earliestTime 1 = .ok (.invokevirtual 69, 3) := by decide +kernel
theorem dX4_earliestTime_4 : decode cX4_earliestTime 4 = .ok (.ifCond .ne 15, 3) := by decide +kernel
theorem dX4_earliestTime_7 : decode cX4_earliestTime 7 = .ok (.aload_n 0, 1) := by decide +kernel
theorem dX4_earliestTime_8 : decode cX4_earliestTime 8 = .ok (.aload_n 1, 1) := by decide +kernel
theorem dX4_earliestTime_9 : decode cX4_earliestTime 9 = .ok (.aload_n 1, 1) := by decide +kernel
theorem dX4_earliestTime_10 : decode cX4_earliestTime 10 = .ok (.getfield 73, 3) := by decide +kernel
theorem dX4_earliestTime_13 : decode cX4_earliestTime 13 = .ok (.invokevirtual 153, 3) := by decide +kernel
theorem dX4_earliestTime_16 : decode cX4_earliestTime 16 = .ok (.ifCond .ne 5, 3) := by decide +kernel
theorem dX4_earliestTime_19 : decode cX4_earliestTime 19 = .ok (.iconst (-1), 1) := by decide +kernel
theorem dX4_earliestTime_20 : decode cX4_earliestTime 20 = .ok (.ireturn, 1) := by decide +kernel
theorem dX4_earliestTime_21 : decode cX4_earliestTime 21 = .ok (.aload_n 0, 1) := by decide +kernel
theorem dX4_earliestTime_22 : decode cX4_earliestTime 22 = .ok (.aload_n 1, 1) := by decide +kernel
theorem dX4_earliestTime_23 : decode cX4_earliestTime 23 = .ok (.invokevirtual 173, 3) := by decide +kernel
theorem dX4_earliestTime_26 : decode cX4_earliestTime 26 = .ok (.istore_n 2, 1) := by decide +kernel
theorem dX4_earliestTime_27 : decode cX4_earliestTime 27 = .ok (.iload_n 2, 1) := by decide +kernel
theorem dX4_earliestTime_28 : decode cX4_earliestTime 28 = .ok (.sipush 400, 3) := by decide +kernel
theorem dX4_earliestTime_31 : decode cX4_earliestTime 31 = .ok (.if_icmp .gt 28, 3) := by decide +kernel
theorem dX4_earliestTime_34 : decode cX4_earliestTime 34 = .ok (.aload_n 0, 1) := by decide +kernel
theorem dX4_earliestTime_35 : decode cX4_earliestTime 35 = .ok (.aload_n 1, 1) := by decide +kernel
theorem dX4_earliestTime_36 : decode cX4_earliestTime 36 = .ok (.iload_n 2, 1) := by decide +kernel
theorem dX4_earliestTime_37 : decode cX4_earliestTime 37 = .ok (.invokevirtual 183, 3) := by decide +kernel
theorem dX4_earliestTime_40 : decode cX4_earliestTime 40 = .ok (.istore_n 3, 1) := by decide +kernel
theorem dX4_earliestTime_41 : decode cX4_earliestTime 41 = .ok (.iload_n 3, 1) := by decide +kernel
theorem dX4_earliestTime_42 : decode cX4_earliestTime 42 = .ok (.iconst (-1), 1) := by decide +kernel
theorem dX4_earliestTime_43 : decode cX4_earliestTime 43 = .ok (.if_icmp .eq 10, 3) := by decide +kernel
theorem dX4_earliestTime_46 : decode cX4_earliestTime 46 = .ok (.bipush 100, 2) := by decide +kernel
theorem dX4_earliestTime_48 : decode cX4_earliestTime 48 = .ok (.iload_n 2, 1) := by decide +kernel
theorem dX4_earliestTime_49 : decode cX4_earliestTime 49 = .ok (.imul, 1) := by decide +kernel
theorem dX4_earliestTime_50 : decode cX4_earliestTime 50 = .ok (.iload_n 3, 1) := by decide +kernel
theorem dX4_earliestTime_51 : decode cX4_earliestTime 51 = .ok (.iadd, 1) := by decide +kernel
theorem dX4_earliestTime_52 : decode cX4_earliestTime 52 = .ok (.ireturn, 1) := by decide +kernel
theorem dX4_earliestTime_53 : decode cX4_earliestTime 53 = .ok (.iinc 2 1, 3) := by decide +kernel
